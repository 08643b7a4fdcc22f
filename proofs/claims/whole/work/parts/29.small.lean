/-! LetterTown$Rows, LetterTown$Guesses, LetterTown$Weeks: what calls nothing of Play -/
set_option maxRecDepth 100000 in
theorem c_Rows_clear (Δ : zD) (w : zW) (hC : zCs w) : zMd Δ 0 0 0 true yX3_clear mX3_clear [.ref 38] w none (zsi (zsi w 38 1 0) 38 4 0) := by
  refine zMd.of mfX3_clear (Nat.le_of_ble_eq_true rfl) (fun QR hQ => ?_)
  refine zJ_aload_n dX3_clear_0 rfl ?_
  refine zJ_iconst (v := 0) dX3_clear_1 (by decide) ?_
  refine zJ_puti dX3_clear_2 fX3_21 (fun q h => by cases h; rfl) (by first | rfl | assumption | exact hC.1 _ (by decide)) rfl rfl rfl ?_
  refine zJ_aload_n dX3_clear_5 rfl ?_
  refine zJ_iconst (v := 0) dX3_clear_6 (by decide) ?_
  refine zJ_puti dX3_clear_7 fX3_25 (fun q h => by cases h; rfl) (by first | rfl | assumption | exact hC.1 _ (by decide)) rfl rfl rfl ?_
  exact zJ_vret dX3_clear_10 rfl (by decide) (by decide) hQ
set_option maxRecDepth 100000 in
theorem c_Rows_add0 (Δ : zD) (w : zW) (hC : zCs w) (p : Int32) (h : w.2.1 38 1 = 20) : zMd Δ 0 0 0 true yX3_add mX3_add [.ref 38, .int p] w (some (.int 0)) w := by
  refine zMd.of mfX3_add (Nat.le_of_ble_eq_true rfl) (fun QR hQ => ?_)
  refine zJ_aload_n dX3_add_0 rfl ?_
  refine zJ_geti dX3_add_1 fX3_21 (by first | rfl | assumption | exact hC.1 _ (by decide)) rfl ?_
  refine zJ_bipush (v := 20) dX3_add_4 (by decide) ?_
  refine zJ_icmp_lt (tgt := 11) dX3_add_6 (by decide) (fun h6 => ?_) (fun h6 => ?_)
  · rw [h] at h6
    exact absurd h6 (by decide)
  · refine zJ_iconst (v := 0) dX3_add_9 (by decide) ?_
    exact zJ_zret dX3_add_10 rfl rfl (by decide) (by decide) hQ
set_option maxRecDepth 100000 in
theorem c_Rows_add (Δ : zD) (w : zW) (hC : zCs w) (n : Nat) (p : Int32) (h : w.2.1 38 1 = nI n) (hn : n < 20) : zMd Δ 0 0 0 true yX3_add mX3_add [.ref 38, .int p] w (some (.int 1)) (zsi (zsi w 39 n p) 38 1 (nI (n + 1))) := by
  refine zMd.of mfX3_add (Nat.le_of_ble_eq_true rfl) (fun QR hQ => ?_)
  have e1 : (zsi w 39 n p).2.1 38 1 = nI n := by simp [zsi, h]
  refine zJ_aload_n dX3_add_0 rfl ?_
  refine zJ_geti dX3_add_1 fX3_21 (by first | rfl | assumption | exact hC.1 _ (by decide)) rfl ?_
  refine zJ_bipush (v := 20) dX3_add_4 (by decide) ?_
  refine zJ_icmp_lt (tgt := 11) dX3_add_6 (by decide) (fun h6 => ?_) (fun h6 => ?_)
  · refine zJ_aload_n dX3_add_11 rfl ?_
    refine zJ_getr dX3_add_12 fX3_11 (by first | rfl | assumption | exact hC.1 _ (by decide)) rfl (by first | rfl | assumption | exact hC.2 _ _ rfl) ?_
    refine zJ_aload_n dX3_add_15 rfl ?_
    refine zJ_geti dX3_add_16 fX3_21 (by first | rfl | assumption | exact hC.1 _ (by decide)) rfl ?_
    rw [h]
    refine zJ_iload_n dX3_add_19 rfl ?_
    refine zJ_iast dX3_add_20 (by first | rfl | assumption | exact hC.1 _ (by decide)) (vp_in_nI (by omega) (by decide)) ?_
    refine zJ_aload_n dX3_add_21 rfl ?_
    refine zJ_dup dX3_add_22 rfl ?_
    refine zJ_geti dX3_add_23 fX3_21 (by first | rfl | assumption | exact hC.1 _ (by decide)) rfl ?_
    rw [nI_clamp (show n < 2 ^ 31 by omega), e1]
    refine zJ_iconst (v := 1) dX3_add_26 (by decide) ?_
    refine zJ_iadd dX3_add_27 ?_
    rw [show nI n + 1 = nI (n + 1) from nI_1 n]
    refine zJ_puti dX3_add_28 fX3_21 (fun q h => by cases h; rfl) (by first | rfl | assumption | exact hC.1 _ (by decide)) rfl rfl rfl ?_
    refine zJ_iconst (v := 1) dX3_add_31 (by decide) ?_
    exact zJ_zret dX3_add_32 rfl rfl (by decide) (by decide) hQ
  · exact absurd ((nI_leI (a := 20) (b := n) (by decide) (by omega)).mp (by rw [← h]; exact Int32.not_lt.mp h6)) (by omega)
set_option maxRecDepth 100000 in
theorem c_Rows_end0 (Δ : zD) (w : zW) (hC : zCs w) (h : w.2.1 38 4 = 20) : zMd Δ 1 0 0 true yX3_end mX3_end [.ref 38] w (some (.int 0)) w := by
  refine zMd.of mfX3_end (Nat.le_of_ble_eq_true rfl) (fun QR hQ => ?_)
  refine zJ_aload_n dX3_end_0 rfl ?_
  refine zJ_geti dX3_end_1 fX3_25 (by first | rfl | assumption | exact hC.1 _ (by decide)) rfl ?_
  refine zJ_bipush (v := 20) dX3_end_4 (by decide) ?_
  refine zJ_icmp_lt (tgt := 11) dX3_end_6 (by decide) (fun h6 => ?_) (fun h6 => ?_)
  · rw [h] at h6
    exact absurd h6 (by decide)
  · refine zJ_iconst (v := 0) dX3_end_9 (by decide) ?_
    exact zJ_zret dX3_end_10 rfl rfl (by decide) (by decide) hQ
set_option maxRecDepth 100000 in
theorem c_Rows_end (Δ : zD) (w : zW) (hC : zCs w) (n e : Nat) (h : w.2.1 38 1 = nI n) (hn : n ≤ 20) (h4 : w.2.1 38 4 = nI e) (he : e < 20) : zMd Δ 1 0 0 true yX3_end mX3_end [.ref 38] w (some (.int 1)) (zsi (zsi (zsi (zcp w 39 40 0 (e * 20) n) 41 e (nI n)) 38 4 (nI (e + 1))) 38 1 0) := by
  refine zMd.of mfX3_end (Nat.le_of_ble_eq_true rfl) (fun QR hQ => ?_)
  have e1 : (zcp w 39 40 0 (e * 20) n).2.1 38 4 = nI e := by simp [zcp, h4]
  have e2 : (zcp w 39 40 0 (e * 20) n).2.1 38 1 = nI n := by simp [zcp, h]
  have e3 : (zsi (zcp w 39 40 0 (e * 20) n) 41 e (nI n)).2.1 38 4 = nI e := by simp [zsi, zcp, h4]
  refine zJ_aload_n dX3_end_0 rfl ?_
  refine zJ_geti dX3_end_1 fX3_25 (by first | rfl | assumption | exact hC.1 _ (by decide)) rfl ?_
  refine zJ_bipush (v := 20) dX3_end_4 (by decide) ?_
  refine zJ_icmp_lt (tgt := 11) dX3_end_6 (by decide) (fun h6 => ?_) (fun h6 => ?_)
  · refine zJ_aload_n dX3_end_11 rfl ?_
    refine zJ_getr dX3_end_12 fX3_11 (by first | rfl | assumption | exact hC.1 _ (by decide)) rfl (by first | rfl | assumption | exact hC.2 _ _ rfl) ?_
    refine zJ_iconst (v := 0) dX3_end_15 (by decide) ?_
    refine zJ_aload_n dX3_end_16 rfl ?_
    refine zJ_getr dX3_end_17 fX3_15 (by first | rfl | assumption | exact hC.1 _ (by decide)) rfl (by first | rfl | assumption | exact hC.2 _ _ rfl) ?_
    refine zJ_aload_n dX3_end_20 rfl ?_
    refine zJ_geti dX3_end_21 fX3_25 (by first | rfl | assumption | exact hC.1 _ (by decide)) rfl ?_
    refine zJ_bipush (v := 20) dX3_end_24 (by decide) ?_
    refine zJ_imul dX3_end_26 ?_
    refine zJ_aload_n dX3_end_27 rfl ?_
    refine zJ_geti dX3_end_28 fX3_21 (by first | rfl | assumption | exact hC.1 _ (by decide)) rfl ?_
    refine zJ_st (st2 := [.int (nI n), .int (nI (e * 20)), .ref 40, .int (nI 0), .ref 39]) (by rw [h, h4, show nI e * 20 = nI (e * 20) from na_mul e 20]; rfl) ?_
    refine zJ_copy (sp := 0) (dp := e * 20) (nn := n) (n0 := 20) (n1 := 400) dX3_end_31 acpX3 (by first | rfl | assumption | exact hC.1 _ (by decide)) (by first | rfl | assumption | exact hC.1 _ (by decide)) (by omega) (by omega) (by decide) (by decide) (by decide) (by decide) ?_
    refine zJ_aload_n dX3_end_34 rfl ?_
    refine zJ_getr dX3_end_35 fX3_18 (by first | rfl | assumption | exact hC.1 _ (by decide)) rfl (by first | rfl | assumption | exact hC.2 _ _ rfl) ?_
    refine zJ_aload_n dX3_end_38 rfl ?_
    refine zJ_geti dX3_end_39 fX3_25 (by first | rfl | assumption | exact hC.1 _ (by decide)) rfl ?_
    rw [e1]
    refine zJ_aload_n dX3_end_42 rfl ?_
    refine zJ_geti dX3_end_43 fX3_21 (by first | rfl | assumption | exact hC.1 _ (by decide)) rfl ?_
    rw [e2]
    refine zJ_iast dX3_end_46 (by first | rfl | assumption | exact hC.1 _ (by decide)) (vp_in_nI (by omega) (by decide)) ?_
    refine zJ_aload_n dX3_end_47 rfl ?_
    refine zJ_dup dX3_end_48 rfl ?_
    refine zJ_geti dX3_end_49 fX3_25 (by first | rfl | assumption | exact hC.1 _ (by decide)) rfl ?_
    rw [nI_clamp (show e < 2 ^ 31 by omega), e3]
    refine zJ_iconst (v := 1) dX3_end_52 (by decide) ?_
    refine zJ_iadd dX3_end_53 ?_
    rw [show nI e + 1 = nI (e + 1) from nI_1 e]
    refine zJ_puti dX3_end_54 fX3_25 (fun q h => by cases h; rfl) (by first | rfl | assumption | exact hC.1 _ (by decide)) rfl rfl rfl ?_
    refine zJ_aload_n dX3_end_57 rfl ?_
    refine zJ_iconst (v := 0) dX3_end_58 (by decide) ?_
    refine zJ_puti dX3_end_59 fX3_21 (fun q h => by cases h; rfl) (by first | rfl | assumption | exact hC.1 _ (by decide)) rfl rfl rfl ?_
    refine zJ_iconst (v := 1) dX3_end_62 (by decide) ?_
    exact zJ_zret dX3_end_63 rfl rfl (by decide) (by decide) hQ
  · exact absurd ((nI_leI (a := 20) (b := e) (by decide) (by omega)).mp (by rw [← h4]; exact Int32.not_lt.mp h6)) (by omega)
set_option maxRecDepth 100000 in
theorem c_Guesses_clear (Δ : zD) (w : zW) (hC : zCs w) : zMd Δ 1 0 0 true yX0_clear mX0_clear [.ref 42] w none (zsi (zrow w 43 (fun k => if k < 32 then -1 else w.2.1 43 k)) 42 2 0) := by
  refine zMd.of mfX0_clear (Nat.le_of_ble_eq_true rfl) (fun QR hQ => ?_)
  refine zJ_aload_n dX0_clear_0 rfl ?_
  refine zJ_getr dX0_clear_1 fX0_9 (by first | rfl | assumption | exact hC.1 _ (by decide)) rfl (by first | rfl | assumption | exact hC.2 _ _ rfl) ?_
  refine zJ_iconst (v := (-1)) dX0_clear_4 (by decide) ?_
  refine zJ_cS2 dX0_clear_5 sX0_27 mfJ7_fill_53178 (c_fill_i Δ w 43 32 (-1) (by decide) (by first | rfl | assumption | exact hC.1 _ (by decide))) (Nat.le_of_ble_eq_true rfl) (by decide) (by decide) ?_
  refine zJ_aload_n dX0_clear_8 rfl ?_
  refine zJ_iconst (v := 0) dX0_clear_9 (by decide) ?_
  refine zJ_puti dX0_clear_10 fX0_33 (fun q h => by cases h; rfl) (by first | rfl | assumption | exact hC.1 _ (by decide)) rfl rfl rfl ?_
  exact zJ_vret dX0_clear_13 rfl (by decide) (by decide) hQ
set_option maxRecDepth 100000 in
theorem c_Guesses_isTold (Δ : zD) (w : zW) (hC : zCs w) (tb g : Nat) (h : w.2.1 42 2 = nI tb) (ht : tb < 16) (hg : g < 4) : zMd Δ 0 0 0 true yX0_isTold mX0_isTold [.ref 42, .int (nI g)] w (some (.int (if tb / 2 ^ g % 2 = 1 then 1 else 0))) w := by
  refine zMd.of mfX0_isTold (Nat.le_of_ble_eq_true rfl) (fun QR hQ => ?_)
  have hb : tb / 2 ^ g % 2 < 2 := Nat.mod_lt _ (by decide)
  refine zJ_aload_n dX0_isTold_0 rfl ?_
  refine zJ_geti dX0_isTold_1 fX0_33 (by first | rfl | assumption | exact hC.1 _ (by decide)) rfl ?_
  refine zJ_iload_n dX0_isTold_4 rfl ?_
  refine zJ_ishr dX0_isTold_5 ?_
  refine zJ_iconst (v := 1) dX0_isTold_6 (by decide) ?_
  refine zJ_iand dX0_isTold_7 ?_
  rw [h, nI_bit (by omega) (by omega)]
  refine zJ_if_eq (tgt := 15) dX0_isTold_8 (by decide) (fun h8 => ?_) (fun h8 => ?_)
  · have h9 : ¬ tb / 2 ^ g % 2 = 1 := by
      have := (nI_eq (b := 0) (by omega) (by decide)).mp h8
      omega
    rw [if_neg h9] at hQ
    refine zJ_iconst (v := 0) dX0_isTold_15 (by decide) ?_
    exact zJ_zret dX0_isTold_16 rfl rfl (by decide) (by decide) hQ
  · have h9 : tb / 2 ^ g % 2 = 1 := by
      have : ¬ tb / 2 ^ g % 2 = 0 := fun e => h8 (by rw [e]; rfl)
      omega
    rw [if_pos h9] at hQ
    refine zJ_iconst (v := 1) dX0_isTold_11 (by decide) ?_
    refine zJ_goto (tgt := 16) dX0_isTold_12 (by decide) ?_
    exact zJ_zret dX0_isTold_16 rfl rfl (by decide) (by decide) hQ
set_option maxRecDepth 100000 in
theorem c_Guesses_tell (Δ : zD) (w : zW) (hC : zCs w) (tb g p : Nat) (s n : Int32) (h : w.2.1 42 2 = nI tb) (hg : g < 4) (hp : p < 8) : zMd Δ 0 0 0 true yX0_tell mX0_tell [.ref 42, .int (nI g), .int (nI p), .int s, .int n] w none (zsi (zsi (zsi w 43 (g * 8 + p) s) 44 (g * 8 + p) n) 42 2 (nI (tb ||| 2 ^ g))) := by
  refine zMd.of mfX0_tell (Nat.le_of_ble_eq_true rfl) (fun QR hQ => ?_)
  have e0 : nI g * 8 + nI p = nI (g * 8 + p) := by rw [show nI g * 8 = nI (g * 8) from na_mul g 8, na_add]
  have e1 : (zsi (zsi w 43 (g * 8 + p) s) 44 (g * 8 + p) n).2.1 42 2 = nI tb := by simp [zsi, h]
  refine zJ_aload_n dX0_tell_0 rfl ?_
  refine zJ_getr dX0_tell_1 fX0_9 (by first | rfl | assumption | exact hC.1 _ (by decide)) rfl (by first | rfl | assumption | exact hC.2 _ _ rfl) ?_
  refine zJ_iload_n dX0_tell_4 rfl ?_
  refine zJ_bipush (v := 8) dX0_tell_5 (by decide) ?_
  refine zJ_imul dX0_tell_7 ?_
  refine zJ_iload_n dX0_tell_8 rfl ?_
  refine zJ_iadd dX0_tell_9 ?_
  rw [e0]
  refine zJ_iload_n dX0_tell_10 rfl ?_
  refine zJ_iast dX0_tell_11 (by first | rfl | assumption | exact hC.1 _ (by decide)) (vp_in_nI (by omega) (by decide)) ?_
  refine zJ_aload_n dX0_tell_12 rfl ?_
  refine zJ_getr dX0_tell_13 fX0_15 (by first | rfl | assumption | exact hC.1 _ (by decide)) rfl (by first | rfl | assumption | exact hC.2 _ _ rfl) ?_
  refine zJ_iload_n dX0_tell_16 rfl ?_
  refine zJ_bipush (v := 8) dX0_tell_17 (by decide) ?_
  refine zJ_imul dX0_tell_19 ?_
  refine zJ_iload_n dX0_tell_20 rfl ?_
  refine zJ_iadd dX0_tell_21 ?_
  rw [e0, nI_clamp (show g * 8 + p < 2 ^ 31 by omega)]
  refine zJ_iload dX0_tell_22 rfl ?_
  refine zJ_iast dX0_tell_24 (by first | rfl | assumption | exact hC.1 _ (by decide)) (vp_in_nI (by omega) (by decide)) ?_
  refine zJ_aload_n dX0_tell_25 rfl ?_
  refine zJ_dup dX0_tell_26 rfl ?_
  refine zJ_geti dX0_tell_27 fX0_33 (by first | rfl | assumption | exact hC.1 _ (by decide)) rfl ?_
  rw [nI_clamp (show g * 8 + p < 2 ^ 31 by omega), e1]
  refine zJ_iconst (v := 1) dX0_tell_30 (by decide) ?_
  refine zJ_iload_n dX0_tell_31 rfl ?_
  refine zJ_ishl dX0_tell_32 ?_
  refine zJ_ior dX0_tell_33 ?_
  rw [na_shl g (by omega), na_or]
  refine zJ_puti dX0_tell_34 fX0_33 (fun q h => by cases h; rfl) (by first | rfl | assumption | exact hC.1 _ (by decide)) rfl rfl rfl ?_
  exact zJ_vret dX0_tell_37 rfl (by decide) (by decide) hQ
def zpi (w : zW) (t g n : Nat) : zW := zrow (zrow w (t + 1) (fun p => if p < n ∧ ¬ w.2.1 43 (g * 8 + p) < 0 then w.2.1 43 (g * 8 + p) else w.2.1 (t + 1) p)) (t + 2) (fun p => if p < n ∧ ¬ w.2.1 43 (g * 8 + p) < 0 then w.2.1 44 (g * 8 + p) else w.2.1 (t + 2) p)
set_option maxRecDepth 100000 in
theorem c_Guesses_putInto (Δ : zD) (w : zW) (hC : zCs w) (t g : Nat) (hT : zTn w t) (htt : t + 4 < 42) (hg : g < 4) : zMd Δ 0 0 0 true yX0_putInto mX0_putInto [.ref 42, .ref t, .int (nI g)] w none (zpi w t g 8) := by
  refine zMd.of mfX0_putInto (Nat.le_of_ble_eq_true rfl) (fun QR hQ => ?_)
  obtain ⟨g0, r1, r2, r3, r4, g1, g2, g3, g4⟩ := hT
  have n1 : ¬ 43 = t + 1 := by omega
  have n2 : ¬ 43 = t + 2 := by omega
  have n3 : ¬ 44 = t + 1 := by omega
  have n4 : ¬ 44 = t + 2 := by omega
  have L : ∀ j, j ≤ 8 → zJ Δ mX0_putInto (zRm 0 0 0) true w.1 QR (fun _ _ => False) 0 0 2 [(3, .int (nI j)), (0, .ref 42), (1, .ref t), (2, .int (nI g))] [] (zpi w t g j) := by
    refine zup (fun j hj ih => ?_)
    have e0 : nI g * 8 + nI j = nI (g * 8 + j) := by rw [show nI g * 8 = nI (g * 8) from na_mul g 8, na_add]
    have e1 : (zpi w t g j).2.1 43 = w.2.1 43 := by funext k; simp [zpi, zrow, n1, n2]
    have e2 : ∀ x, (zsi (zpi w t g j) (t + 1) j x).2.1 44 = w.2.1 44 := by intro x; funext k; simp [zsi, zpi, zrow, n3, n4]
    have c1 : (nI (g * 8 + j)).toNatClampNeg = g * 8 + j := nI_clamp (by omega)
    have c2 : (nI j).toNatClampNeg = j := nI_clamp (by omega)
    refine zJ_iload_n dX0_putInto_2 rfl ?_
    refine zJ_bipush (v := 8) dX0_putInto_3 (by decide) ?_
    refine zJ_icmp_ge (tgt := 62) dX0_putInto_5 (by decide) (fun h5 => ?_) (fun h5 => ?_)
    · have hj9 : j = 8 := by exact Nat.le_antisymm hj ((nI_leI (a := 8) (b := j) (by omega) (by omega)).mp h5)
      subst hj9
      exact zJ_vret dX0_putInto_62 rfl (by decide) (by decide) hQ
    · have hj9 : j < 8 := Nat.lt_of_not_le fun hq9 => h5 (by exact (nI_leI (a := 8) (b := j) (by omega) (by omega)).mpr hq9)
      refine zJ_aload_n dX0_putInto_8 rfl ?_
      refine zJ_getr dX0_putInto_9 fX0_9 (by first | rfl | assumption | exact hC.1 _ (by decide)) rfl (by first | rfl | assumption | exact hC.2 _ _ rfl) ?_
      refine zJ_iload_n dX0_putInto_12 rfl ?_
      refine zJ_bipush (v := 8) dX0_putInto_13 (by decide) ?_
      refine zJ_imul dX0_putInto_15 ?_
      refine zJ_iload_n dX0_putInto_16 rfl ?_
      refine zJ_iadd dX0_putInto_17 ?_
      rw [e0]
      refine zJ_iald dX0_putInto_18 (by first | rfl | assumption | exact hC.1 _ (by decide)) (vp_in_nI (by omega) (by decide)) ?_
      rw [c1, e1]
      refine zJ_if_lt (tgt := 56) dX0_putInto_19 (by decide) (fun h19 => ?_) (fun h19 => ?_)
      · skip
        refine zJ_iinc (ls2 := fun x56 => [(3, .int x56), (0, .ref 42), (1, .ref t), (2, .int (nI g))]) dX0_putInto_56 rfl (by decide) (fun _ => rfl) (fun x56 ex56 => ?_)
        refine zJ_goto (tgt := 2) dX0_putInto_59 (by decide) ?_
        refine zJ_ls [(3, .int x56), (0, .ref 42), (1, .ref t), (2, .int (nI g))] (by simp) ?_
        rw [ex56, show nI j + Int32.ofInt 1 = nI (j + 1) from nI_1 _]
        refine zJ_w (w2 := zpi w t g (j + 1)) ?_ (ih (j + 1) (by omega) (by omega))
        refine Prod.ext rfl (Prod.ext (funext fun a => funext fun b => ?_) rfl)
        have c3 : ¬ b = j → (b < j + 1) = (b < j) := fun _ => by simp only [eq_iff_iff]; omega
        simp only [zpi, zrow, zsi, zcp]
        by_cases d1 : a = t + 1
        · subst d1
          by_cases d2 : b = j
          · subst d2; simp [h19]
          · simp [d2, c3 d2]
        · by_cases d3 : a = t + 2
          · subst d3
            by_cases d2 : b = j
            · subst d2; simp [h19]
            · simp [d2, c3 d2]
          · simp [d1, d3]
      · refine zJ_aload_n dX0_putInto_22 rfl ?_
        refine zJ_getr dX0_putInto_23 fX0_37 (by first | rfl | assumption | exact hC.1 _ (by decide)) rfl (by first | rfl | assumption | exact hC.2 _ _ rfl) ?_
        refine zJ_iload_n dX0_putInto_26 rfl ?_
        refine zJ_aload_n dX0_putInto_27 rfl ?_
        refine zJ_getr dX0_putInto_28 fX0_9 (by first | rfl | assumption | exact hC.1 _ (by decide)) rfl (by first | rfl | assumption | exact hC.2 _ _ rfl) ?_
        refine zJ_iload_n dX0_putInto_31 rfl ?_
        refine zJ_bipush (v := 8) dX0_putInto_32 (by decide) ?_
        refine zJ_imul dX0_putInto_34 ?_
        refine zJ_iload_n dX0_putInto_35 rfl ?_
        refine zJ_iadd dX0_putInto_36 ?_
        rw [e0]
        refine zJ_iald dX0_putInto_37 (by first | rfl | assumption | exact hC.1 _ (by decide)) (vp_in_nI (by omega) (by decide)) ?_
        rw [c1, e1]
        refine zJ_iast dX0_putInto_38 (by first | rfl | assumption | exact hC.1 _ (by decide)) (vp_in_nI (by omega) (by decide)) ?_
        refine zJ_aload_n dX0_putInto_39 rfl ?_
        refine zJ_getr dX0_putInto_40 fX0_42 (by first | rfl | assumption | exact hC.1 _ (by decide)) rfl (by first | rfl | assumption | exact hC.2 _ _ rfl) ?_
        refine zJ_iload_n dX0_putInto_43 rfl ?_
        refine zJ_aload_n dX0_putInto_44 rfl ?_
        refine zJ_getr dX0_putInto_45 fX0_15 (by first | rfl | assumption | exact hC.1 _ (by decide)) rfl (by first | rfl | assumption | exact hC.2 _ _ rfl) ?_
        refine zJ_iload_n dX0_putInto_48 rfl ?_
        refine zJ_bipush (v := 8) dX0_putInto_49 (by decide) ?_
        refine zJ_imul dX0_putInto_51 ?_
        refine zJ_iload_n dX0_putInto_52 rfl ?_
        refine zJ_iadd dX0_putInto_53 ?_
        rw [e0, c2]
        refine zJ_iald dX0_putInto_54 (by first | rfl | assumption | exact hC.1 _ (by decide)) (vp_in_nI (by omega) (by decide)) ?_
        rw [c1, e2]
        refine zJ_iast dX0_putInto_55 (by first | rfl | assumption | exact hC.1 _ (by decide)) (vp_in_nI (by omega) (by decide)) ?_
        rw [c2]
        refine zJ_iinc (ls2 := fun x56 => [(3, .int x56), (0, .ref 42), (1, .ref t), (2, .int (nI g))]) dX0_putInto_56 rfl (by decide) (fun _ => rfl) (fun x56 ex56 => ?_)
        refine zJ_goto (tgt := 2) dX0_putInto_59 (by decide) ?_
        refine zJ_ls [(3, .int x56), (0, .ref 42), (1, .ref t), (2, .int (nI g))] (by simp) ?_
        rw [ex56, show nI j + Int32.ofInt 1 = nI (j + 1) from nI_1 _]
        refine zJ_w (w2 := zpi w t g (j + 1)) ?_ (ih (j + 1) (by omega) (by omega))
        refine Prod.ext rfl (Prod.ext (funext fun a => funext fun b => ?_) rfl)
        have c3 : ¬ b = j → (b < j + 1) = (b < j) := fun _ => by simp only [eq_iff_iff]; omega
        simp only [zpi, zrow, zsi, zcp]
        by_cases d1 : a = t + 1
        · subst d1
          by_cases d2 : b = j
          · subst d2; simp [h19]
          · simp [d2, c3 d2]
        · by_cases d3 : a = t + 2
          · subst d3
            by_cases d2 : b = j
            · subst d2; simp [h19]
            · simp [d2, c3 d2]
          · simp [d1, d3]
  refine zJ_iconst (v := 0) dX0_putInto_0 (by decide) ?_
  refine zJ_istore_n (ls2 := fun x1 => [(3, .int x1), (0, .ref 42), (1, .ref t), (2, .int (nI g))]) dX0_putInto_1 (by decide) (fun _ => rfl) (fun x1 ex1 => ?_)
  subst ex1
  refine zJ_w (w2 := zpi w t g 0) ?_ (L 0 (Nat.zero_le _))
  refine Prod.ext rfl (Prod.ext (funext fun a => funext fun b => ?_) rfl)
  simp only [zpi, zrow]
  by_cases d1 : a = t + 1
  · subst d1; simp
  · by_cases d3 : a = t + 2
    · subst d3; simp
    · simp [d1, d3]
/-- a share, weighed by a row's odds -/
def zw1 (tb : Nat) (v o : Nat → Int64) (g : Nat) : Int64 := if tb / 2 ^ g % 2 = 1 then v g * (if o g / 1000 ≤ 1 then 1 else o g / 1000) else v g
def ztg (tb : Nat) (f : Nat → Int64) : Nat → Int64
  | 0 => 0
  | n + 1 => if tb / 2 ^ n % 2 = 1 then ztg tb f n + f n else ztg tb f n
def zw2 (tb : Nat) (v o : Nat → Int64) (g : Nat) : Int64 := if ztg tb (zw1 tb v o) 4 ≤ 0 then zw1 tb v o g else if tb / 2 ^ g % 2 = 1 then zw1 tb v o g * 1000000 / ztg tb (zw1 tb v o) 4 else zw1 tb v o g
set_option maxRecDepth 100000 in
theorem c_Guesses_weighBy (Δ : zD) (w : zW) (hC : zCs w) (tb r : Nat) (h : w.2.1 42 2 = nI tb) (ht : tb < 16) (hr : r < 20) : zMd Δ 1 0 0 true yX0_weighBy mX0_weighBy [.ref 42, .int (nI r)] w none (zrol w 46 (fun g => if g < 4 then zw2 tb (w.2.2.1 46) (fun g => w.2.2.1 45 (g * 20 + r)) g else w.2.2.1 46 g)) := by
  refine zMd.of mfX0_weighBy (Nat.le_of_ble_eq_true rfl) (fun QR hQ => ?_)
  generalize hv : w.2.2.1 46 = v at hQ
  generalize ho : (fun g => w.2.2.1 45 (g * 20 + r)) = o at hQ
  have ho2 : ∀ g, w.2.2.1 45 (g * 20 + r) = o g := fun g => by rw [← ho]
  have L2 : 0 < ztg tb (zw1 tb v o) 4 → ∀ j, j ≤ 4 → zJ Δ mX0_weighBy (zRm 1 0 0) true w.1 QR (fun _ _ => False) 0 0 76 [(4, .int (nI j)), (2, .long (ztg tb (zw1 tb v o) 4)), (0, .ref 42), (1, .int (nI r))] [] (zrol w 46 (fun g => if g < j then zw2 tb v o g else if g < 4 then zw1 tb v o g else v g)) := by
    intro hp
    have hp2 : ¬ ztg tb (zw1 tb v o) 4 ≤ 0 := Int64.not_le.mpr hp
    have hp3 : ¬ ztg tb (zw1 tb v o) 4 = 0 := fun e => by rw [e] at hp; exact absurd hp (by decide)
    refine zup (fun j hj ih => ?_)
    have c2 : (nI j).toNatClampNeg = j := nI_clamp (by omega)
    refine zJ_iload dX0_weighBy_76 rfl ?_
    refine zJ_iconst (v := 4) dX0_weighBy_78 (by decide) ?_
    refine zJ_icmp_ge (tgt := 117) dX0_weighBy_79 (by decide) (fun h79 => ?_) (fun h79 => ?_)
    · have hj9 : j = 4 := by exact Nat.le_antisymm hj ((nI_leI (a := 4) (b := j) (by omega) (by omega)).mp h79)
      subst hj9
      exact zJ_vret dX0_weighBy_117 rfl (by decide) (by decide) (by refine (congrArg (QR none) ?_).mp hQ; refine congrArg (zrol w 46) (funext fun g => ?_); by_cases c : g < 4 <;> simp [c])
    · have hj9 : j < 4 := Nat.lt_of_not_le fun hq9 => h79 (by exact (nI_leI (a := 4) (b := j) (by omega) (by omega)).mpr hq9)
      refine zJ_aload_n dX0_weighBy_82 rfl ?_
      refine zJ_iload dX0_weighBy_83 rfl ?_
      refine zJ_cV1 dX0_weighBy_85 sX0_74 mfX0_isTold (c_Guesses_isTold Δ (zrol w 46 (fun g => if g < j then zw2 tb v o g else if g < 4 then zw1 tb v o g else v g)) hC tb j h ht (by omega)) (by first | rfl | assumption | exact hC.1 _ (by decide)) rfl (Nat.le_of_ble_eq_true rfl) (by decide) (by decide) ?_
      refine zJ_if_eq (tgt := 111) dX0_weighBy_88 (by decide) (fun h88 => ?_) (fun h88 => ?_)
      · skip
        refine zJ_iinc (ls2 := fun x111 => [(4, .int x111), (2, .long (ztg tb (zw1 tb v o) 4)), (0, .ref 42), (1, .int (nI r))]) dX0_weighBy_111 rfl (by decide) (fun _ => rfl) (fun x111 ex111 => ?_)
        refine zJ_goto (tgt := 76) dX0_weighBy_114 (by decide) ?_
        refine zJ_ls [(4, .int x111), (2, .long (ztg tb (zw1 tb v o) 4)), (0, .ref 42), (1, .int (nI r))] (by simp) ?_
        rw [ex111, show nI j + Int32.ofInt 1 = nI (j + 1) from nI_1 _]
        have hb : ¬ tb / 2 ^ j % 2 = 1 := fun e => by rw [if_pos e] at h88; exact absurd h88 (by decide)
        refine zJ_w (w2 := (zrol w 46 (fun g => if g < j + 1 then zw2 tb v o g else if g < 4 then zw1 tb v o g else v g))) ?_ (ih (j + 1) (by omega) (by omega))
        refine congrArg (zrol w 46) (funext fun g => ?_)
        by_cases c : g = j
        · subst c; simp [zw2, hb, hj9]
        · have c3 : (g < j + 1) = (g < j) := by simp only [eq_iff_iff]; omega
          simp [c3]
      · have hb : tb / 2 ^ j % 2 = 1 := Classical.byContradiction fun e => h88 (by rw [if_neg e])
        refine zJ_aload_n dX0_weighBy_91 rfl ?_
        refine zJ_getr dX0_weighBy_92 fX0_24 (by first | rfl | assumption | exact hC.1 _ (by decide)) rfl (by first | rfl | assumption | exact hC.2 _ _ rfl) ?_
        refine zJ_iload dX0_weighBy_95 rfl ?_
        refine zJ_aload_n dX0_weighBy_97 rfl ?_
        refine zJ_getr dX0_weighBy_98 fX0_24 (by first | rfl | assumption | exact hC.1 _ (by decide)) rfl (by first | rfl | assumption | exact hC.2 _ _ rfl) ?_
        refine zJ_iload dX0_weighBy_101 rfl ?_
        refine zJ_lald dX0_weighBy_103 (by first | rfl | assumption | exact hC.1 _ (by decide)) (vp_in_nI (by omega) (by decide)) ?_
        rw [c2, zrol_get, if_neg (Nat.lt_irrefl j), if_pos hj9]
        refine zJ_ldc2 dX0_weighBy_104 kX0_86 ?_
        refine zJ_lmul dX0_weighBy_107 ?_
        refine zJ_lload_n dX0_weighBy_108 rfl ?_
        refine zJ_ldiv dX0_weighBy_109 hp3 ?_
        refine zJ_last dX0_weighBy_110 (by first | rfl | assumption | exact hC.1 _ (by decide)) (vp_in_nI (by omega) (by decide)) ?_
        rw [c2]
        refine zJ_iinc (ls2 := fun x111 => [(4, .int x111), (2, .long (ztg tb (zw1 tb v o) 4)), (0, .ref 42), (1, .int (nI r))]) dX0_weighBy_111 rfl (by decide) (fun _ => rfl) (fun x111 ex111 => ?_)
        refine zJ_goto (tgt := 76) dX0_weighBy_114 (by decide) ?_
        refine zJ_ls [(4, .int x111), (2, .long (ztg tb (zw1 tb v o) 4)), (0, .ref 42), (1, .int (nI r))] (by simp) ?_
        rw [ex111, show nI j + Int32.ofInt 1 = nI (j + 1) from nI_1 _]
        refine zJ_w (w2 := (zrol w 46 (fun g => if g < j + 1 then zw2 tb v o g else if g < 4 then zw1 tb v o g else v g))) ?_ (ih (j + 1) (by omega) (by omega))
        rw [zsl_row, zrol_get, zrol_rol]
        refine congrArg (zrol w 46) (funext fun g => ?_)
        by_cases c : g = j
        · subst c; simp [zw2, hp2, hb]
        · have c3 : (g < j + 1) = (g < j) := by simp only [eq_iff_iff]; omega
          simp [c, c3]
  have L1 : ∀ j, j ≤ 4 → zJ Δ mX0_weighBy (zRm 1 0 0) true w.1 QR (fun _ _ => False) 0 0 5 [(4, .int (nI j)), (2, .long (ztg tb (zw1 tb v o) j)), (0, .ref 42), (1, .int (nI r))] [] (zrol w 46 (fun g => if g < j then zw1 tb v o g else v g)) := by
    refine zup (fun j hj ih => ?_)
    have c2 : (nI j).toNatClampNeg = j := nI_clamp (by omega)
    have e0 : nI j * 20 + nI r = nI (j * 20 + r) := by rw [show nI j * 20 = nI (j * 20) from na_mul j 20, na_add]
    have e1 : ∀ f, (zrol w 46 f).2.2.1 45 (j * 20 + r) = o j := fun f => by rw [← ho2]; simp [zrol]
    refine zJ_iload dX0_weighBy_5 rfl ?_
    refine zJ_iconst (v := 4) dX0_weighBy_7 (by decide) ?_
    refine zJ_icmp_ge (tgt := 66) dX0_weighBy_8 (by decide) (fun h8 => ?_) (fun h8 => ?_)
    · have hj9 : j = 4 := by exact Nat.le_antisymm hj ((nI_leI (a := 4) (b := j) (by omega) (by omega)).mp h8)
      subst hj9
      refine zJ_lload_n dX0_weighBy_66 rfl ?_
      refine zJ_lconst (v := 0) dX0_weighBy_67 (by decide) ?_
      refine zJ_lc_gt (tgt := 73) dX0_weighBy_68 dX0_weighBy_69 (by decide) (fun h69 => ?_) (fun h69 => ?_)
      · refine zJ_iconst (v := 0) dX0_weighBy_73 (by decide) ?_
        refine zJ_istore (ls2 := fun x74 => [(4, .int x74), (2, .long (ztg tb (zw1 tb v o) 4)), (0, .ref 42), (1, .int (nI r))]) dX0_weighBy_74 (by decide) (fun _ => rfl) (fun x74 ex74 => ?_)
        subst ex74
        exact L2 h69 0 (Nat.zero_le _)
      · have hp2 : ztg tb (zw1 tb v o) 4 ≤ 0 := Int64.not_lt.mp h69
        refine zJ_vret dX0_weighBy_72 rfl (by decide) (by decide) ((congrArg (QR none) ?_).mp hQ)
        refine congrArg (zrol w 46) (funext fun g => ?_)
        simp [zw2, hp2]
    · have hj9 : j < 4 := Nat.lt_of_not_le fun hq9 => h8 (by exact (nI_leI (a := 4) (b := j) (by omega) (by omega)).mpr hq9)
      refine zJ_aload_n dX0_weighBy_11 rfl ?_
      refine zJ_iload dX0_weighBy_12 rfl ?_
      refine zJ_cV1 dX0_weighBy_14 sX0_74 mfX0_isTold (c_Guesses_isTold Δ (zrol w 46 (fun g => if g < j then zw1 tb v o g else v g)) hC tb j h ht (by omega)) (by first | rfl | assumption | exact hC.1 _ (by decide)) rfl (Nat.le_of_ble_eq_true rfl) (by decide) (by decide) ?_
      refine zJ_if_eq (tgt := 60) dX0_weighBy_17 (by decide) (fun h17 => ?_) (fun h17 => ?_)
      · refine zJ_iinc (ls2 := fun x60 => [(4, .int x60), (2, .long (ztg tb (zw1 tb v o) j)), (0, .ref 42), (1, .int (nI r))]) dX0_weighBy_60 rfl (by decide) (fun _ => rfl) (fun x60 ex60 => ?_)
        refine zJ_goto (tgt := 5) dX0_weighBy_63 (by decide) ?_
        refine zJ_ls [(4, .int x60), (2, .long (ztg tb (zw1 tb v o) j)), (0, .ref 42), (1, .int (nI r))] (by simp) ?_
        rw [ex60, show nI j + Int32.ofInt 1 = nI (j + 1) from nI_1 _]
        have hb : ¬ tb / 2 ^ j % 2 = 1 := fun e => by rw [if_pos e] at h17; exact absurd h17 (by decide)
        refine zJ_w (w2 := zrol w 46 (fun g => if g < j + 1 then zw1 tb v o g else v g)) ?_ ?_
        · refine congrArg (zrol w 46) (funext fun g => ?_)
          by_cases c : g = j
          · subst c; simp [zw1, hb]
          · have c3 : (g < j + 1) = (g < j) := by simp only [eq_iff_iff]; omega
            simp [c3]
        · rw [show ztg tb (zw1 tb v o) j = ztg tb (zw1 tb v o) (j + 1) by simp [ztg, hb]]
          exact ih (j + 1) (by omega) (by omega)
      · have hb : tb / 2 ^ j % 2 = 1 := Classical.byContradiction fun e => h17 (by rw [if_neg e])
        refine zJ_aload_n dX0_weighBy_20 rfl ?_
        refine zJ_getr dX0_weighBy_21 fX0_24 (by first | rfl | assumption | exact hC.1 _ (by decide)) rfl (by first | rfl | assumption | exact hC.2 _ _ rfl) ?_
        refine zJ_iload dX0_weighBy_24 rfl ?_
        refine zJ_dup2_11 dX0_weighBy_26 rfl rfl ?_
        refine zJ_lald dX0_weighBy_27 (by first | rfl | assumption | exact hC.1 _ (by decide)) (vp_in_nI (by omega) (by decide)) ?_
        rw [c2, zrol_get, if_neg (Nat.lt_irrefl j)]
        refine zJ_lconst (v := 1) dX0_weighBy_28 (by decide) ?_
        refine zJ_aload_n dX0_weighBy_29 rfl ?_
        refine zJ_getr dX0_weighBy_30 fX0_20 (by first | rfl | assumption | exact hC.1 _ (by decide)) rfl (by first | rfl | assumption | exact hC.2 _ _ rfl) ?_
        refine zJ_iload dX0_weighBy_33 rfl ?_
        refine zJ_bipush (v := 20) dX0_weighBy_35 (by decide) ?_
        refine zJ_imul dX0_weighBy_37 ?_
        refine zJ_iload_n dX0_weighBy_38 rfl ?_
        refine zJ_iadd dX0_weighBy_39 ?_
        rw [e0]
        refine zJ_lald dX0_weighBy_40 (by first | rfl | assumption | exact hC.1 _ (by decide)) (vp_in_nI (by omega) (by decide)) ?_
        rw [nI_clamp (show j * 20 + r < 2 ^ 31 by omega), e1]
        refine zJ_ldc2 dX0_weighBy_41 kX0_78 ?_
        refine zJ_ldiv dX0_weighBy_44 (by decide) ?_
        refine zJ_cS2 dX0_weighBy_45 sX0_80 mfJ9_max_f86c9 (c_maxl Δ _ _ _) (Nat.le_of_ble_eq_true rfl) (by decide) (by decide) ?_
        refine zJ_lmul dX0_weighBy_48 ?_
        rw [show v j * (if o j / 1000 ≤ 1 then 1 else o j / 1000) = zw1 tb v o j by simp [zw1, hb]]
        refine zJ_last dX0_weighBy_49 (by first | rfl | assumption | exact hC.1 _ (by decide)) (vp_in_nI (by omega) (by decide)) ?_
        rw [c2]
        refine zJ_lload_n dX0_weighBy_50 rfl ?_
        refine zJ_aload_n dX0_weighBy_51 rfl ?_
        refine zJ_getr dX0_weighBy_52 fX0_24 (by first | rfl | assumption | exact hC.1 _ (by decide)) rfl (by first | rfl | assumption | exact hC.2 _ _ rfl) ?_
        refine zJ_iload dX0_weighBy_55 rfl ?_
        refine zJ_lald dX0_weighBy_57 (by first | rfl | assumption | exact hC.1 _ (by decide)) (vp_in_nI (by omega) (by decide)) ?_
        rw [c2, show (zsl (zrol w 46 (fun g => if g < j then zw1 tb v o g else v g)) 46 j (zw1 tb v o j)).2.2.1 46 j = zw1 tb v o j by simp [zsl]]
        refine zJ_ladd dX0_weighBy_58 ?_
        refine zJ_lstore_n (ls2 := fun x59 => [(2, .long x59), (4, .int (nI j)), (0, .ref 42), (1, .int (nI r))]) dX0_weighBy_59 (by decide) (fun _ => rfl) (fun x59 ex59 => ?_)
        refine zJ_iinc (ls2 := fun x60 => [(4, .int x60), (2, .long x59), (0, .ref 42), (1, .int (nI r))]) dX0_weighBy_60 rfl (by decide) (fun _ => rfl) (fun x60 ex60 => ?_)
        refine zJ_goto (tgt := 5) dX0_weighBy_63 (by decide) ?_
        refine zJ_ls [(4, .int x60), (2, .long x59), (0, .ref 42), (1, .int (nI r))] (by simp) ?_
        rw [ex60, show nI j + Int32.ofInt 1 = nI (j + 1) from nI_1 _]
        refine zJ_w (w2 := zrol w 46 (fun g => if g < j + 1 then zw1 tb v o g else v g)) ?_ ?_
        · rw [zsl_row, zrol_get, zrol_rol]
          refine congrArg (zrol w 46) (funext fun g => ?_)
          by_cases c : g = j
          · subst c; simp [zw1, hb]
          · have c3 : (g < j + 1) = (g < j) := by simp only [eq_iff_iff]; omega
            simp [c, c3]
        · rw [ex59, show ztg tb (zw1 tb v o) j + zw1 tb v o j = ztg tb (zw1 tb v o) (j + 1) by simp [ztg, hb]]
          exact ih (j + 1) (by omega) (by omega)
  refine zJ_lconst (v := 0) dX0_weighBy_0 (by decide) ?_
  refine zJ_lstore_n (ls2 := fun x1 => [(2, .long x1), (0, .ref 42), (1, .int (nI r))]) dX0_weighBy_1 (by decide) (fun _ => rfl) (fun x1 ex1 => ?_)
  refine zJ_iconst (v := 0) dX0_weighBy_2 (by decide) ?_
  refine zJ_istore (ls2 := fun x3 => [(4, .int x3), (2, .long x1), (0, .ref 42), (1, .int (nI r))]) dX0_weighBy_3 (by decide) (fun _ => rfl) (fun x3 ex3 => ?_)
  subst ex1; subst ex3
  refine zJ_w (w2 := zrol w 46 (fun g => if g < 0 then zw1 tb v o g else v g)) ?_ (L1 0 (Nat.zero_le _))
  simp only [Nat.not_lt_zero, if_false]
  rw [← hv]
  exact (zrol_self w 46).symm
