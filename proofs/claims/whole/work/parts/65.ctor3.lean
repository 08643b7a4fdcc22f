/-! constructors: Reader, Rows, Guesses, Theft, Weeks, LetterTown -/
set_option maxRecDepth 100000 in
theorem c_Rows_init (Δ : zD) (w : zW) (i : Nat) (hi : i + 3 < 1000) (hk : w.1 i = some (.inl 3)) (n1 : w.1 (i + 1) = none) (n2 : w.1 (i + 2) = none) (n3 : w.1 (i + 3) = none) : zMn Δ 1 3 440 yX3_init mX3_init [.ref i] w (fun r c => r = none ∧ c = zsr (znew (zsr (znew (zsr (znew w (i + 1) (.inr (false, 20))) i 0 (some (i + 1))) (i + 2) (.inr (false, 400))) i 2 (some (i + 2))) (i + 3) (.inr (false, 20))) i 3 (some (i + 3))) := by
  refine zM.of mfX3_init (Nat.le_of_ble_eq_true rfl) ?_
  refine zJ_aload_n dX3_init_0 rfl ?_
  refine zJ_obj dX3_init_1 (List.mem_of_getElem? (i := 426) rfl) (by decide) (by decide) ?_
  refine zJ_aload_n dX3_init_4 rfl ?_
  refine zJ_bipush (v := 20) dX3_init_5 (by decide) ?_
  refine zJ_newi (len := 20) (i + 1) dX3_init_7 (by decide) rfl (by decide) rfl (by simp [znew, zsr, zsi, hk, n1, n2, n3]) (by omega) (by simp [lv_args, znr, Value.category]) (by simp [znr]) (by decide) (by decide) ?_
  refine zJ_putF dX3_init_9 rfl fX3_11 (fun q hq => by cases hq; exact ⟨(List.mem_of_getElem? (i := 427) rfl), rfl, rfl⟩) (by simp [znew, zsr, zsi, hk, n1, n2, n3]) rfl (fun _ => rfl) (fun _ => rfl) (by simp [znew, zsr]) ?_
  refine zJ_aload_n dX3_init_12 rfl ?_
  refine zJ_sipush (v := 400) dX3_init_13 (by decide) ?_
  refine zJ_newi (len := 400) (i + 2) dX3_init_16 (by decide) rfl (by decide) rfl (by simp [znew, zsr, zsi, hk, n1, n2, n3]) (by omega) (by simp [lv_args, znr, Value.category]) (by simp [znr]) (by decide) (by decide) ?_
  refine zJ_putF dX3_init_18 rfl fX3_15 (fun q hq => by cases hq; exact ⟨(List.mem_of_getElem? (i := 431) rfl), rfl, rfl⟩) (by simp [znew, zsr, zsi, hk, n1, n2, n3]) rfl (fun _ => rfl) (fun _ => rfl) (by simp [znew, zsr]) ?_
  refine zJ_aload_n dX3_init_21 rfl ?_
  refine zJ_bipush (v := 20) dX3_init_22 (by decide) ?_
  refine zJ_newi (len := 20) (i + 3) dX3_init_24 (by decide) rfl (by decide) rfl (by simp [znew, zsr, zsi, hk, n1, n2, n3]) (by omega) (by simp [lv_args, znr, Value.category]) (by simp [znr]) (by decide) (by decide) ?_
  refine zJ_putF dX3_init_26 rfl fX3_18 (fun q hq => by cases hq; exact ⟨(List.mem_of_getElem? (i := 433) rfl), rfl, rfl⟩) (by simp [znew, zsr, zsi, hk, n1, n2, n3]) rfl (fun _ => rfl) (fun _ => rfl) (by simp [znew, zsr]) ?_
  exact zJ_vret dX3_init_29 rfl (by decide) (by decide) ⟨rfl, rfl⟩
set_option maxRecDepth 100000 in
theorem c_Theft_init (Δ : zD) (w : zW) (i : Nat) (hi : i + 3 < 1000) (hk : w.1 i = some (.inl 4)) (n1 : w.1 (i + 1) = none) (n2 : w.1 (i + 2) = none) (n3 : w.1 (i + 3) = none) : zMn Δ 1 3 68 yX4_init mX4_init [.ref i] w (fun r c => r = none ∧ c = zsr (znew (zsr (znew (zsr (znew w (i + 1) (.inr (false, 30))) i 0 (some (i + 1))) (i + 2) (.inr (false, 30))) i 1 (some (i + 2))) (i + 3) (.inr (false, 8))) i 7 (some (i + 3))) := by
  refine zM.of mfX4_init (Nat.le_of_ble_eq_true rfl) ?_
  refine zJ_aload_n dX4_init_0 rfl ?_
  refine zJ_obj dX4_init_1 (List.mem_of_getElem? (i := 477) rfl) (by decide) (by decide) ?_
  refine zJ_aload_n dX4_init_4 rfl ?_
  refine zJ_bipush (v := 30) dX4_init_5 (by decide) ?_
  refine zJ_newi (len := 30) (i + 1) dX4_init_7 (by decide) rfl (by decide) rfl (by simp [znew, zsr, zsi, hk, n1, n2, n3]) (by omega) (by simp [lv_args, znr, Value.category]) (by simp [znr]) (by decide) (by decide) ?_
  refine zJ_putF dX4_init_9 rfl fX4_11 (fun q hq => by cases hq; exact ⟨(List.mem_of_getElem? (i := 478) rfl), rfl, rfl⟩) (by simp [znew, zsr, zsi, hk, n1, n2, n3]) rfl (fun _ => rfl) (fun _ => rfl) (by simp [znew, zsr]) ?_
  refine zJ_aload_n dX4_init_12 rfl ?_
  refine zJ_bipush (v := 30) dX4_init_13 (by decide) ?_
  refine zJ_newi (len := 30) (i + 2) dX4_init_15 (by decide) rfl (by decide) rfl (by simp [znew, zsr, zsi, hk, n1, n2, n3]) (by omega) (by simp [lv_args, znr, Value.category]) (by simp [znr]) (by decide) (by decide) ?_
  refine zJ_putF dX4_init_17 rfl fX4_15 (fun q hq => by cases hq; exact ⟨(List.mem_of_getElem? (i := 479) rfl), rfl, rfl⟩) (by simp [znew, zsr, zsi, hk, n1, n2, n3]) rfl (fun _ => rfl) (fun _ => rfl) (by simp [znew, zsr]) ?_
  refine zJ_aload_n dX4_init_20 rfl ?_
  refine zJ_bipush (v := 8) dX4_init_21 (by decide) ?_
  refine zJ_newi (len := 8) (i + 3) dX4_init_23 (by decide) rfl (by decide) rfl (by simp [znew, zsr, zsi, hk, n1, n2, n3]) (by omega) (by simp [lv_args, znr, Value.category]) (by simp [znr]) (by decide) (by decide) ?_
  refine zJ_putF dX4_init_25 rfl fX4_18 (fun q hq => by cases hq; exact ⟨(List.mem_of_getElem? (i := 490) rfl), rfl, rfl⟩) (by simp [znew, zsr, zsi, hk, n1, n2, n3]) rfl (fun _ => rfl) (fun _ => rfl) (by simp [znew, zsr]) ?_
  exact zJ_vret dX4_init_28 rfl (by decide) (by decide) ⟨rfl, rfl⟩
set_option maxRecDepth 100000 in
theorem c_Weeks_init (Δ : zD) (w : zW) (i : Nat) (hi : i + 3 < 1000) (hk : w.1 i = some (.inl 7)) (n1 : w.1 (i + 1) = none) (n2 : w.1 (i + 2) = none) (n3 : w.1 (i + 3) = none) : zMn Δ 1 3 208 yX7_init mX7_init [.ref i] w (fun r c => r = none ∧ c = zsr (znew (zsr (znew (zsr (znew w (i + 1) (.inr (false, 100))) i 4 (some (i + 1))) (i + 2) (.inr (false, 100))) i 5 (some (i + 2))) (i + 3) (.inr (false, 8))) i 6 (some (i + 3))) := by
  refine zM.of mfX7_init (Nat.le_of_ble_eq_true rfl) ?_
  refine zJ_aload_n dX7_init_0 rfl ?_
  refine zJ_obj dX7_init_1 (List.mem_of_getElem? (i := 513) rfl) (by decide) (by decide) ?_
  refine zJ_aload_n dX7_init_4 rfl ?_
  refine zJ_bipush (v := 100) dX7_init_5 (by decide) ?_
  refine zJ_newi (len := 100) (i + 1) dX7_init_7 (by decide) rfl (by decide) rfl (by simp [znew, zsr, zsi, hk, n1, n2, n3]) (by omega) (by simp [lv_args, znr, Value.category]) (by simp [znr]) (by decide) (by decide) ?_
  refine zJ_putF dX7_init_9 rfl fX7_11 (fun q hq => by cases hq; exact ⟨(List.mem_of_getElem? (i := 520) rfl), rfl, rfl⟩) (by simp [znew, zsr, zsi, hk, n1, n2, n3]) rfl (fun _ => rfl) (fun _ => rfl) (by simp [znew, zsr]) ?_
  refine zJ_aload_n dX7_init_12 rfl ?_
  refine zJ_bipush (v := 100) dX7_init_13 (by decide) ?_
  refine zJ_newi (len := 100) (i + 2) dX7_init_15 (by decide) rfl (by decide) rfl (by simp [znew, zsr, zsi, hk, n1, n2, n3]) (by omega) (by simp [lv_args, znr, Value.category]) (by simp [znr]) (by decide) (by decide) ?_
  refine zJ_putF dX7_init_17 rfl fX7_15 (fun q hq => by cases hq; exact ⟨(List.mem_of_getElem? (i := 522) rfl), rfl, rfl⟩) (by simp [znew, zsr, zsi, hk, n1, n2, n3]) rfl (fun _ => rfl) (fun _ => rfl) (by simp [znew, zsr]) ?_
  refine zJ_aload_n dX7_init_20 rfl ?_
  refine zJ_bipush (v := 8) dX7_init_21 (by decide) ?_
  refine zJ_newi (len := 8) (i + 3) dX7_init_23 (by decide) rfl (by decide) rfl (by simp [znew, zsr, zsi, hk, n1, n2, n3]) (by omega) (by simp [lv_args, znr, Value.category]) (by simp [znr]) (by decide) (by decide) ?_
  refine zJ_putF dX7_init_25 rfl fX7_18 (fun q hq => by cases hq; exact ⟨(List.mem_of_getElem? (i := 524) rfl), rfl, rfl⟩) (by simp [znew, zsr, zsi, hk, n1, n2, n3]) rfl (fun _ => rfl) (fun _ => rfl) (by simp [znew, zsr]) ?_
  exact zJ_vret dX7_init_28 rfl (by decide) (by decide) ⟨rfl, rfl⟩
set_option maxRecDepth 100000 in
theorem c_Guesses_init (Δ : zD) (w : zW) (i : Nat) (hi : i + 4 < 1000) (hk : w.1 i = some (.inl 0)) (n1 : w.1 (i + 1) = none) (n2 : w.1 (i + 2) = none) (n3 : w.1 (i + 3) = none) (n4 : w.1 (i + 4) = none) : zMn Δ 1 4 148 yX0_init mX0_init [.ref i] w (fun r c => r = none ∧ c = zrow (zsr (znew (zsr (znew (zsr (znew (zsr (znew w (i + 1) (.inr (false, 32))) i 0 (some (i + 1))) (i + 2) (.inr (false, 32))) i 1 (some (i + 2))) (i + 3) (.inr (true, 80))) i 3 (some (i + 3))) (i + 4) (.inr (true, 4))) i 4 (some (i + 4))) (i + 1) (fun k => if k < 32 then -1 else 0)) := by
  refine zM.of mfX0_init (Nat.le_of_ble_eq_true rfl) ?_
  refine zJ_aload_n dX0_init_0 rfl ?_
  refine zJ_obj dX0_init_1 (List.mem_of_getElem? (i := 454) rfl) (by decide) (by decide) ?_
  refine zJ_aload_n dX0_init_4 rfl ?_
  refine zJ_bipush (v := 32) dX0_init_5 (by decide) ?_
  refine zJ_newi (len := 32) (i + 1) dX0_init_7 (by decide) rfl (by decide) rfl (by simp [znew, zsr, zsi, hk, n1, n2, n3, n4]) (by omega) (by simp [lv_args, znr, Value.category]) (by simp [znr]) (by decide) (by decide) ?_
  refine zJ_putF dX0_init_9 rfl fX0_9 (fun q hq => by cases hq; exact ⟨(List.mem_of_getElem? (i := 456) rfl), rfl, rfl⟩) (by simp [znew, zsr, zsi, hk, n1, n2, n3, n4]) rfl (fun _ => rfl) (fun _ => rfl) (by simp [znew, zsr]) ?_
  refine zJ_aload_n dX0_init_12 rfl ?_
  refine zJ_bipush (v := 32) dX0_init_13 (by decide) ?_
  refine zJ_newi (len := 32) (i + 2) dX0_init_15 (by decide) rfl (by decide) rfl (by simp [znew, zsr, zsi, hk, n1, n2, n3, n4]) (by omega) (by simp [lv_args, znr, Value.category]) (by simp [znr]) (by decide) (by decide) ?_
  refine zJ_putF dX0_init_17 rfl fX0_15 (fun q hq => by cases hq; exact ⟨(List.mem_of_getElem? (i := 457) rfl), rfl, rfl⟩) (by simp [znew, zsr, zsi, hk, n1, n2, n3, n4]) rfl (fun _ => rfl) (fun _ => rfl) (by simp [znew, zsr]) ?_
  refine zJ_aload_n dX0_init_20 rfl ?_
  refine zJ_bipush (v := 80) dX0_init_21 (by decide) ?_
  refine zJ_newl (len := 80) (i + 3) dX0_init_23 (by decide) rfl (by decide) rfl (by simp [znew, zsr, zsi, hk, n1, n2, n3, n4]) (by omega) (by simp [lv_args, znr, Value.category]) (by simp [znr]) (by decide) (by decide) ?_
  refine zJ_putF dX0_init_25 rfl fX0_20 (fun q hq => by cases hq; exact ⟨(List.mem_of_getElem? (i := 459) rfl), rfl, rfl⟩) (by simp [znew, zsr, zsi, hk, n1, n2, n3, n4]) rfl (fun _ => rfl) (fun _ => rfl) (by simp [znew, zsr]) ?_
  refine zJ_aload_n dX0_init_28 rfl ?_
  refine zJ_iconst (v := 4) dX0_init_29 (by decide) ?_
  refine zJ_newl (len := 4) (i + 4) dX0_init_30 (by decide) rfl (by decide) rfl (by simp [znew, zsr, zsi, hk, n1, n2, n3, n4]) (by omega) (by simp [lv_args, znr, Value.category]) (by simp [znr]) (by decide) (by decide) ?_
  refine zJ_putF dX0_init_32 rfl fX0_24 (fun q hq => by cases hq; exact ⟨(List.mem_of_getElem? (i := 460) rfl), rfl, rfl⟩) (by simp [znew, zsr, zsi, hk, n1, n2, n3, n4]) rfl (fun _ => rfl) (fun _ => rfl) (by simp [znew, zsr]) ?_
  refine zJ_aload_n dX0_init_35 rfl ?_
  refine zJ_getr dX0_init_36 fX0_9 (by simp [znew, zsr, hk]) rfl (j := i + 1) (by simp [znew, zsr]) ?_
  refine zJ_iconst (v := (-1)) dX0_init_39 (by decide) ?_
  refine zJ_cS2 dX0_init_40 sX0_27 mfJ7_fill_53178 (c_fill_i Δ _ (i + 1) 32 (-1) (by decide) (by simp [znew, zsr])) (Nat.le_of_ble_eq_true rfl) (by decide) (by decide) ?_
  exact zJ_vret dX0_init_43 rfl (by decide) (by decide) ⟨rfl, by
      refine congrArg (zrow _ (i + 1)) (funext fun k => ?_)
      simp [znew, zsr]⟩
set_option maxRecDepth 100000 in
theorem c_Reader_init (Δ : zD) (w : zW) (i x : Nat) (hi : i + 5 < 1000) (hx : x < i) (hk : w.1 i = some (.inl 2)) (kx : w.1 x = some (.inr (false, 700))) (n1 : w.1 (i + 1) = none) (n2 : w.1 (i + 2) = none) (n3 : w.1 (i + 3) = none) (n4 : w.1 (i + 4) = none) (n5 : w.1 (i + 5) = none) : zMn Δ 3 5 102 yX2_init mX2_init [.ref i, .ref x] w (fun r c => r = none ∧ zFo w c i (i + 5) ∧ c.1 i = some (.inl 2) ∧ c.2.2.2 i 0 = some x ∧ c.2.2.2 i 1 = some (i + 1) ∧ zTn c (i + 1)) := by
  refine zM.of mfX2_init (Nat.le_of_ble_eq_true rfl) ?_
  refine zJ_aload_n dX2_init_0 rfl ?_
  refine zJ_obj dX2_init_1 (List.mem_of_getElem? (i := 178) rfl) (by decide) (by decide) ?_
  refine zJ_aload_n dX2_init_4 rfl ?_
  refine zJ_new (ci := 5) (i + 1) dX2_init_5 rfl (List.mem_of_getElem? (i := 179) rfl) (List.mem_of_getElem? (i := 180) rfl) (List.mem_of_getElem? (i := 144) rfl) rfl (by simp [n1]) (by omega) (by simp [lv_args, znr, Value.category, show ¬ x = i + 1 by omega]) (by simp [znr]) (by decide) (by decide) ?_
  refine zJ_dup dX2_init_8 rfl ?_
  refine zJ_callI (As := []) dX2_init_9 sX2_11 mfX5_init rfl (c_Town_init Δ (znew w (i + 1) (.inl 5)) (i + 1) (by omega) (by simp [znew]) (by simp [znew, n2]) (by simp [znew, n3]) (by simp [znew, n4]) (by simp [znew, n5])) (fun _ _ h => h) rfl (Or.inr ⟨rfl, by simp [zokv, znew, zsr, zsi, hk, kx, show ¬ x = i + 1 by omega], by simp [lv_args, zokv, Value.category, znew, zsr, zsi, hk, kx, show ¬ x = i + 1 by omega]⟩) (Nat.le_of_ble_eq_true rfl) (by decide) (by decide) (fun r c hP => ?_)
  obtain ⟨rfl, hF1, hTc, hT1⟩ := hP
  have hxi : ¬ x = i + 1 := by omega
  have kB : c.1 i = some (.inl 2) := (hF1 i (by omega)).1.trans (by simp [znew, hk])
  have kX : c.1 x = some (.inr (false, 700)) := (hF1 x (by omega)).1.trans (by simp [znew, kx, hxi])
  refine zJ_putF dX2_init_12 rfl fX2_12 (fun q hq => by cases hq; exact ⟨(List.mem_of_getElem? (i := 284) rfl), rfl, rfl⟩) (by simp [znew, zsr, zsi, kB, kX]) rfl (fun _ => rfl) (fun _ => rfl) (by simp [znew, zsr, zsi, hTc, kX]) ?_
  refine zJ_aload_n dX2_init_15 rfl ?_
  refine zJ_aload_n dX2_init_16 rfl ?_
  refine zJ_putF dX2_init_17 rfl fX2_18 (fun q hq => by cases hq; exact ⟨(List.mem_of_getElem? (i := 283) rfl), rfl, rfl⟩) (by simp [znew, zsr, zsi, kB, kX]) rfl (fun _ => rfl) (fun _ => rfl) (by simp [znew, zsr, zsi, hTc, kX]) ?_
  exact zJ_vret dX2_init_20 rfl (by decide) (by decide) ⟨rfl, ((zFo.new (by omega)).tr (hF1.mono (by omega) (by omega))).tr ((zFo.r (by omega)).tr (zFo.r (by omega))), by simp [zsr, kB], by simp [zsr], by simp [zsr], by
      obtain ⟨a1, a2, a3, a4, a5, a6, a7, a8, a9⟩ := hT1.1
      refine ⟨?_, ?_, ?_, ?_, ?_, ?_, ?_, ?_, ?_⟩ <;> simp [zsr, a1, a2, a3, a4, a5, a6, a7, a8, a9]⟩
