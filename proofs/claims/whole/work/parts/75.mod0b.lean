set_option maxRecDepth 100000 in
theorem c_Mo_lays (Δ : zD) (w : zW) (hM : zMs w) (x : Int32) (n : Nat) (hn : n + 4 ≤ 700) (hl : w.2.1 100 14 = nI n) : zMd Δ 0 0 0 true yX9_lays mX9_lays [.ref 100, .int x] w none (zpb w 100 14 113 n x 4) := by
  refine zMd.of mfX9_lays (Nat.le_of_ble_eq_true rfl) (fun QR hQ => ?_)
  have L : ∀ j, j ≤ 4 → zJ Δ mX9_lays (zRm 0 0 0) true w.1 QR (fun _ _ => False) 0 0 3 [(2, .int (24 - nI (8 * j))), (0, .ref 100), (1, .int x)] [] (zpb w 100 14 113 n x j) := by
    refine zup (fun j hj ih => ?_)
    have e1 : (zpb w 100 14 113 n x j).2.1 100 14 = nI (n + j) := by simp [zpb, zsi]
    have c1 : j ≤ 3 → (nI (n + j)).toNatClampNeg = n + j := fun _ => nI_clamp (by omega)
    refine zJ_iload_n dX9_lays_3 rfl ?_
    refine zJ_if_lt (tgt := 39) dX9_lays_4 (by decide) (fun h4 => ?_) (fun h4 => ?_)
    · have hj4 : j = 4 := Classical.byContradiction fun h9 => zsh_ge j (by omega) h4
      subst hj4
      exact zJ_vret dX9_lays_39 rfl (by decide) (by decide) hQ
    · have hj3 : j ≤ 3 := Nat.le_of_lt_succ (Nat.lt_of_le_of_ne hj fun h9 => h4 (by rw [h9]; decide))
      have c1 := c1 hj3
      refine zJ_aload_n dX9_lays_7 rfl ?_
      refine zJ_getr (j := 113) dX9_lays_8 fX9_32 (by first | rfl | assumption | exact hM.at (by decide) (by decide)) rfl (by first | rfl | assumption | exact hM.rf (by decide) rfl) ?_
      refine zJ_aload_n dX9_lays_11 rfl ?_
      refine zJ_geti dX9_lays_12 fX9_173 (by first | rfl | assumption | exact hM.at (by decide) (by decide)) rfl ?_
      refine zJ_iload_n dX9_lays_15 rfl ?_
      refine zJ_iload_n dX9_lays_16 rfl ?_
      refine zJ_ishr dX9_lays_17 ?_
      refine zJ_sipush (v := 255) dX9_lays_18 (by decide) ?_
      refine zJ_iand dX9_lays_21 ?_
      rw [e1, zbn_eq]
      refine zJ_iast dX9_lays_22 (by first | rfl | assumption | exact hM.at (by decide) (by decide)) (vp_in_nI (by omega) (by decide)) ?_
      refine zJ_aload_n dX9_lays_23 rfl ?_
      refine zJ_dup dX9_lays_24 rfl ?_
      refine zJ_geti dX9_lays_25 fX9_173 (by first | rfl | assumption | exact hM.at (by decide) (by decide)) rfl ?_
      rw [c1, show (zsi (zpb w 100 14 113 n x j) 113 (n + j) (nI (zbn x j))).2.1 100 14 = nI (n + j) by simp [zsi, zpb]]
      refine zJ_iconst (v := 1) dX9_lays_28 (by decide) ?_
      refine zJ_iadd dX9_lays_29 ?_
      rw [show nI (n + j) + 1 = nI (n + j + 1) from nI_1 _]
      refine zJ_puti dX9_lays_30 fX9_173 (fun q h => by cases h; rfl) (by first | rfl | assumption | exact hM.at (by decide) (by decide)) rfl rfl rfl ?_
      refine zJ_iinc (ls2 := fun x33 => [(2, .int x33), (0, .ref 100), (1, .int x)]) dX9_lays_33 rfl (by decide) (fun _ => rfl) (fun x33 ex33 => ?_)
      refine zJ_goto (tgt := 3) dX9_lays_36 (by decide) ?_
      refine zJ_ls [(2, .int x33), (0, .ref 100), (1, .int x)] (by simp) ?_
      rw [ex33, zsh_st j (by omega)]
      refine zJ_w (w2 := zpb w 100 14 113 n x (j + 1)) ?_ (ih (j + 1) (by omega) (by omega))
      exact zpb_s (by decide)
  refine zJ_bipush (v := 24) dX9_lays_0 (by decide) ?_
  refine zJ_istore_n (ls2 := fun x2 => [(2, .int x2), (0, .ref 100), (1, .int x)]) dX9_lays_2 (by decide) (fun _ => rfl) (fun x2 ex2 => ?_)
  subst ex2
  refine zJ_w (w2 := zpb w 100 14 113 n x 0) (zpb_0 hl (by decide)).symm (L 0 (Nat.zero_le _))
set_option maxRecDepth 100000 in
theorem c_Mo_feed (Δ : zD) (w : zW) (hM : zMs w) (a b c d e : Int32) (n : Nat) (hn : n ≤ 700) (hl : w.2.1 100 14 = nI n) : zMp Δ 2 yX9_feed mX9_feed [.ref 100, .int a, .int b, .int c, .int d, .int e] w (fun r w2 => (680 < n ∧ r = some (.int (-1)) ∧ w2 = zsi w 100 0 0) ∨ (n ≤ 680 ∧ r = some (.int (nI (n + 20))) ∧ w2 = zp5 (zsi w 100 0 0) 100 14 113 n a b c d e)) := by
  refine zMp.of mfX9_feed (Nat.le_of_ble_eq_true rfl) (fun QR hQ => ?_)
  refine zJ_aload_n dX9_feed_0 rfl ?_
  refine zJ_iconst (v := 0) dX9_feed_1 (by decide) ?_
  refine zJ_puti dX9_feed_2 fX9_170 (fun q h => by cases h; rfl) (by first | rfl | assumption | exact hM.at (by decide) (by decide)) rfl rfl rfl ?_
  refine zJ_aload_n dX9_feed_5 rfl ?_
  refine zJ_geti dX9_feed_6 fX9_173 (by first | rfl | assumption | exact hM.at (by decide) (by decide)) rfl ?_
  rw [zsi_ne (by decide), hl]
  refine zJ_bipush (v := 20) dX9_feed_9 (by decide) ?_
  refine zJ_iadd dX9_feed_11 ?_
  refine zJ_sipush (v := 700) dX9_feed_12 (by decide) ?_
  rw [show nI n + 20 = nI (n + 20) from na_add n 20]
  refine zJ_icmp_le (tgt := 20) dX9_feed_15 (by decide) (fun h15 => ?_) (fun h15 => ?_)
  · have hsm : n ≤ 680 := by have := (nI_leI (b := 700) (by omega) (by decide)).mp h15; omega
    refine zJ_aload_n dX9_feed_20 rfl ?_
    refine zJ_iload_n dX9_feed_21 rfl ?_
    refine zJ_cV1 dX9_feed_22 sX9_176 mfX9_lays (c_Mo_lays Δ (zsi w 100 0 0) hM a n (by omega) (by rw [zsi_ne (by decide)]; exact hl)) (by first | rfl | assumption | exact hM.at (by decide) (by decide)) rfl (Nat.le_of_ble_eq_true rfl) (by decide) (by decide) ?_
    refine zJ_aload_n dX9_feed_25 rfl ?_
    refine zJ_iload_n dX9_feed_26 rfl ?_
    refine zJ_cV1 dX9_feed_27 sX9_176 mfX9_lays (c_Mo_lays Δ (zpb (zsi w 100 0 0) 100 14 113 n a 4) hM b (n + 4) (by omega) (zpb_len _ _ _ _ _ _ _)) (by first | rfl | assumption | exact hM.at (by decide) (by decide)) rfl (Nat.le_of_ble_eq_true rfl) (by decide) (by decide) ?_
    refine zJ_aload_n dX9_feed_30 rfl ?_
    refine zJ_iload_n dX9_feed_31 rfl ?_
    refine zJ_cV1 dX9_feed_32 sX9_176 mfX9_lays (c_Mo_lays Δ (zpb (zpb (zsi w 100 0 0) 100 14 113 n a 4) 100 14 113 (n + 4) b 4) hM c (n + 8) (by omega) (zpb_len _ _ _ _ _ _ _)) (by first | rfl | assumption | exact hM.at (by decide) (by decide)) rfl (Nat.le_of_ble_eq_true rfl) (by decide) (by decide) ?_
    refine zJ_aload_n dX9_feed_35 rfl ?_
    refine zJ_iload dX9_feed_36 rfl ?_
    refine zJ_cV1 dX9_feed_38 sX9_176 mfX9_lays (c_Mo_lays Δ (zpb (zpb (zpb (zsi w 100 0 0) 100 14 113 n a 4) 100 14 113 (n + 4) b 4) 100 14 113 (n + 8) c 4) hM d (n + 12) (by omega) (zpb_len _ _ _ _ _ _ _)) (by first | rfl | assumption | exact hM.at (by decide) (by decide)) rfl (Nat.le_of_ble_eq_true rfl) (by decide) (by decide) ?_
    refine zJ_aload_n dX9_feed_41 rfl ?_
    refine zJ_iload dX9_feed_42 rfl ?_
    refine zJ_cV1 dX9_feed_44 sX9_176 mfX9_lays (c_Mo_lays Δ (zpb (zpb (zpb (zpb (zsi w 100 0 0) 100 14 113 n a 4) 100 14 113 (n + 4) b 4) 100 14 113 (n + 8) c 4) 100 14 113 (n + 12) d 4) hM e (n + 16) (by omega) (zpb_len _ _ _ _ _ _ _)) (by first | rfl | assumption | exact hM.at (by decide) (by decide)) rfl (Nat.le_of_ble_eq_true rfl) (by decide) (by decide) ?_
    refine zJ_aload_n dX9_feed_47 rfl ?_
    refine zJ_geti dX9_feed_48 fX9_173 (by first | rfl | assumption | exact hM.at (by decide) (by decide)) rfl ?_
    rw [zpb_len]
    exact zJ_iret dX9_feed_51 rfl (by decide) (by decide) (hQ _ _ (Or.inr ⟨hsm, rfl, rfl⟩))
  · have hbig : 680 < n := Nat.lt_of_not_le fun h9 => h15 ((nI_leI (b := 700) (by omega) (by decide)).mpr (by omega))
    refine zJ_iconst (v := (-1)) dX9_feed_18 (by decide) ?_
    exact zJ_iret dX9_feed_19 rfl (by decide) (by decide) (hQ _ _ (Or.inl ⟨hbig, rfl, rfl⟩))
