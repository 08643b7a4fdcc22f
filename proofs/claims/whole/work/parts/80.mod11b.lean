set_option maxRecDepth 100000 in
theorem c_Mo_hand (Δ : zD) (w : zW) (U : zTo) (hMu : zMu w U) (hU : zTok U) (h13 : U.1 13 = 0) (x : Int32) (n : Nat) (hn : n ≤ 20) (h55 : w.2.1 100 55 = nI n) : zMp Δ 2 yX9_hand mX9_hand [.ref 100, .int x] w (fun r c => (¬ (∃ p, p < U.1 0 ∧ x = nI p) ∧ c.2.1 100 0 = 1 ∧ zFM zScr w c) ∨ (∃ p, p < U.1 0 ∧ x = nI p ∧ c.2.1 100 0 = 0 ∧ ((n = 20 ∧ r = some (.int (-1)) ∧ c = zsi (zsi w 100 0 0) 117 1 (w.2.1 117 1 + 1)) ∨ (n < 20 ∧ r = some (.int (nI (n + 1))) ∧ c = zsi (zsi (zsi w 100 0 0) 157 n (nI p)) 100 55 (nI (n + 1)))))) := by
  refine zMp.of mfX9_hand (Nat.le_of_ble_eq_true rfl) (fun QR hQ => ?_)
  have hMu0 := hMu
  obtain ⟨hM, u1, u2, u3, u4, u5, u6, u7, u8, u9, uso, unu, uwt⟩ := hMu
  have hp8 := hU.1
  have hU0 := hU
  have M0 : zMs (zsi w 100 0 0) := hM
  have z0 : (zsi w 100 0 0).2.1 100 0 = 0 := by simp [zsi]
  have hMu1 : zMu (zsi w 100 0 0) U := hMu0.fm (zFM.i (l := [0]) (by decide)) (by decide)
  have hp1 : (zsi w 100 0 0).2.1 100 1 = nI (U.1 0) := hMu1.2.1
  have h551 : (zsi w 100 0 0).2.1 100 55 = nI n := by simp [zsi, h55]
  by_cases hx : ∃ p, p < U.1 0 ∧ x = nI p
  · obtain ⟨p, hp, rfl⟩ := hx
    refine zJ_aload_n dX9_hand_0 rfl ?_
    refine zJ_iconst (v := 0) dX9_hand_1 (by decide) ?_
    refine zJ_puti dX9_hand_2 fX9_170 (fun q h => by cases h; rfl) (by first | rfl | assumption | exact M0.at (by decide) (by decide)) rfl rfl rfl ?_
    refine zJ_aload_n dX9_hand_5 rfl ?_
    refine zJ_iload_n dX9_hand_6 rfl ?_
    refine zJ_cV1 dX9_hand_7 sX9_339 mfX9_isPerson ((c_Mo_isPerson Δ (zsi w 100 0 0) M0 z0 (nI p) (U.1 0) hp1 hp8).1 ⟨p, hp, rfl⟩) (by first | rfl | assumption | exact M0.at (by decide) (by decide)) rfl (Nat.le_of_ble_eq_true rfl) (by decide) (by decide) ?_
    refine zJ_if_ne (tgt := 15) dX9_hand_10 (by decide) (fun _ => ?_) (fun h9 => False.elim (by revert h9; decide))
    refine zJ_aload_n dX9_hand_15 rfl ?_
    refine zJ_geti dX9_hand_16 fX9_317 (by first | rfl | assumption | exact M0.at (by decide) (by decide)) rfl ?_
    rw [h551]
    refine zJ_bipush (v := 20) dX9_hand_19 (by decide) ?_
    refine zJ_icmp_ne (tgt := 36) dX9_hand_21 (by decide) (fun h21 => ?_) (fun h21 => ?_)
    · have hn20 : n < 20 := Nat.lt_of_le_of_ne hn fun h => h21 (by rw [h]; rfl)
      refine zJ_aload_n dX9_hand_36 rfl ?_
      refine zJ_getr (j := 157) dX9_hand_37 fX9_92 (by first | rfl | assumption | exact M0.at (by decide) (by decide)) rfl (by first | rfl | assumption | exact M0.rf (by decide) rfl) ?_
      refine zJ_aload_n dX9_hand_40 rfl ?_
      refine zJ_geti dX9_hand_41 fX9_317 (by first | rfl | assumption | exact M0.at (by decide) (by decide)) rfl ?_
      rw [h551]
      refine zJ_iload_n dX9_hand_44 rfl ?_
      refine zJ_iastN (i := n) dX9_hand_45 (by first | rfl | assumption | exact M0.at (by decide) (by decide)) rfl (by omega) (by decide) ?_
      refine zJ_aload_n dX9_hand_46 rfl ?_
      refine zJ_dup dX9_hand_47 rfl ?_
      refine zJ_geti dX9_hand_48 fX9_317 (by first | rfl | assumption | exact M0.at (by decide) (by decide)) rfl ?_
      rw [show (zsi (zsi w 100 0 0) 157 n (nI p)).2.1 100 55 = nI n by simp [zsi, h55]]
      refine zJ_iconst (v := 1) dX9_hand_51 (by decide) ?_
      refine zJ_iadd dX9_hand_52 ?_
      rw [show nI n + 1 = nI (n + 1) from nI_1 _]
      refine zJ_puti dX9_hand_53 fX9_317 (fun q h => by cases h; rfl) (by first | rfl | assumption | exact M0.at (by decide) (by decide)) rfl rfl rfl ?_
      refine zJ_aload_n dX9_hand_56 rfl ?_
      refine zJ_geti dX9_hand_57 fX9_317 (by first | rfl | assumption | exact M0.at (by decide) (by decide)) rfl ?_
      rw [show (zsi (zsi (zsi w 100 0 0) 157 n (nI p)) 100 55 (nI (n + 1))).2.1 100 55 = nI (n + 1) by simp [zsi]]
      exact zJ_iret dX9_hand_60 rfl (by decide) (by decide) (hQ _ _ (Or.inr ⟨p, hp, rfl, by simp [zsi], Or.inr ⟨hn20, rfl, rfl⟩⟩))
    · have hn20 : n = 20 := (nI_eq (b := 20) (by omega) (by decide)).mp h21
      refine zJ_aload_n dX9_hand_24 rfl ?_
      refine zJ_getr (j := 117) dX9_hand_25 fX9_38 (by first | rfl | assumption | exact M0.at (by decide) (by decide)) rfl (by first | rfl | assumption | exact M0.rf (by decide) rfl) ?_
      refine zJ_iconst (v := 1) dX9_hand_28 (by decide) ?_
      refine zJ_dup2_11 dX9_hand_29 rfl rfl ?_
      refine zJ_ialdN (i := 1) dX9_hand_30 (by first | rfl | assumption | exact M0.at (by decide) (by decide)) rfl (by omega) (by decide) rfl ?_
      refine zJ_iconst (v := 1) dX9_hand_31 (by decide) ?_
      refine zJ_iadd dX9_hand_32 ?_
      refine zJ_iastN (i := 1) dX9_hand_33 (by first | rfl | assumption | exact M0.at (by decide) (by decide)) rfl (by omega) (by decide) ?_
      refine zJ_iconst (v := (-1)) dX9_hand_34 (by decide) ?_
      exact zJ_iret dX9_hand_35 rfl (by decide) (by decide) (hQ _ _ (Or.inr ⟨p, hp, rfl, by simp [zsi], Or.inl ⟨hn20, rfl, by simp [zsi]⟩⟩))
  · skip
    refine zJ_aload_n dX9_hand_0 rfl ?_
    refine zJ_iconst (v := 0) dX9_hand_1 (by decide) ?_
    refine zJ_puti dX9_hand_2 fX9_170 (fun q h => by cases h; rfl) (by first | rfl | assumption | exact M0.at (by decide) (by decide)) rfl rfl rfl ?_
    refine zJ_aload_n dX9_hand_5 rfl ?_
    refine zJ_iload_n dX9_hand_6 rfl ?_
    refine zJ_cV1 dX9_hand_7 sX9_339 mfX9_isPerson ((c_Mo_isPerson Δ (zsi w 100 0 0) M0 z0 x (U.1 0) hp1 hp8).2 hx) (by first | rfl | assumption | exact M0.at (by decide) (by decide)) rfl (Nat.le_of_ble_eq_true rfl) (by decide) (by decide) ?_
    refine zJ_if_ne (tgt := 15) dX9_hand_10 (by decide) (fun h9 => False.elim (by revert h9; decide)) (fun _ => ?_)
    refine zJ_iconst (v := 0) dX9_hand_13 (by decide) ?_
    exact zJ_iret dX9_hand_14 rfl (by decide) (by decide) (hQ _ _ (Or.inl ⟨hx, by simp [zsi], zFM.t0.tr zFM.t0⟩))
set_option maxRecDepth 100000 in
theorem c_Mo_ended (Δ : zD) (w : zW) (hM : zMs w) (n e : Nat) (he : e ≤ 20) (h55 : w.2.1 100 55 = nI n) (h56 : w.2.1 100 56 = nI e) : zMp Δ 0 yX9_ended mX9_ended [.ref 100] w (fun r c => c.2.1 100 0 = 0 ∧ ((e = 20 ∧ r = some (.int (-1)) ∧ c = zsi w 100 0 0) ∨ (e < 20 ∧ r = some (.int (nI (e + 1))) ∧ c = zsi (zsi (zsi (zrow (zsi w 100 0 0) 158 (fun j => if e * 20 ≤ j ∧ j < e * 20 + 20 then w.2.1 157 (j - e * 20) else w.2.1 158 j)) 159 e (nI n)) 100 56 (nI (e + 1))) 100 55 0))) := by
  refine zMp.of mfX9_ended (Nat.le_of_ble_eq_true rfl) (fun QR hQ => ?_)
  have M0 : zMs (zsi w 100 0 0) := hM
  have h551 : (zsi w 100 0 0).2.1 100 55 = nI n := by simp [zsi, h55]
  have h561 : (zsi w 100 0 0).2.1 100 56 = nI e := by simp [zsi, h56]
  have L : e < 20 → ∀ j, j ≤ 20 → zJ Δ mX9_ended (zRm 0 0 0) true w.1 QR (fun _ _ => False) 0 0 18 [(1, .int (nI j)), (0, .ref 100)] [] (zrow (zsi w 100 0 0) 158 (fun q => if e * 20 ≤ q ∧ q < e * 20 + j then w.2.1 157 (q - e * 20) else w.2.1 158 q)) := by
    intro he9
    refine zup (fun j hj ih => ?_)
    refine zJ_iload_n dX9_ended_18 rfl ?_
    refine zJ_bipush (v := 20) dX9_ended_19 (by decide) ?_
    refine zJ_icmp_ge (tgt := 50) dX9_ended_21 (by decide) (fun h21 => ?_) (fun h21 => ?_)
    · have hj9 : j = 20 := by exact Nat.le_antisymm hj ((nI_leI (a := 20) (b := j) (by omega) (by omega)).mp h21)
      subst hj9
      refine zJ_aload_n dX9_ended_50 rfl ?_
      refine zJ_getr (j := 159) dX9_ended_51 fX9_98 (by first | rfl | assumption | exact M0.at (by decide) (by decide)) rfl (by first | rfl | assumption | exact M0.rf (by decide) rfl) ?_
      refine zJ_aload_n dX9_ended_54 rfl ?_
      refine zJ_geti dX9_ended_55 fX9_320 (by first | rfl | assumption | exact M0.at (by decide) (by decide)) rfl ?_
      rw [show (zrow (zsi w 100 0 0) 158 (fun q => if e * 20 ≤ q ∧ q < e * 20 + 20 then w.2.1 157 (q - e * 20) else w.2.1 158 q)).2.1 100 56 = nI e by simp [zrow, zsi, h56]]
      refine zJ_aload_n dX9_ended_58 rfl ?_
      refine zJ_geti dX9_ended_59 fX9_317 (by first | rfl | assumption | exact M0.at (by decide) (by decide)) rfl ?_
      rw [show (zrow (zsi w 100 0 0) 158 (fun q => if e * 20 ≤ q ∧ q < e * 20 + 20 then w.2.1 157 (q - e * 20) else w.2.1 158 q)).2.1 100 55 = nI n by simp [zrow, zsi, h55]]
      refine zJ_iastN (i := e) dX9_ended_62 (by first | rfl | assumption | exact M0.at (by decide) (by decide)) rfl (by omega) (by decide) ?_
      refine zJ_aload_n dX9_ended_63 rfl ?_
      refine zJ_dup dX9_ended_64 rfl ?_
      refine zJ_geti dX9_ended_65 fX9_320 (by first | rfl | assumption | exact M0.at (by decide) (by decide)) rfl ?_
      rw [show (zsi (zrow (zsi w 100 0 0) 158 (fun q => if e * 20 ≤ q ∧ q < e * 20 + 20 then w.2.1 157 (q - e * 20) else w.2.1 158 q)) 159 e (nI n)).2.1 100 56 = nI e by simp [zrow, zsi, h56]]
      refine zJ_iconst (v := 1) dX9_ended_68 (by decide) ?_
      refine zJ_iadd dX9_ended_69 ?_
      rw [show nI e + 1 = nI (e + 1) from nI_1 _]
      refine zJ_puti dX9_ended_70 fX9_320 (fun q h => by cases h; rfl) (by first | rfl | assumption | exact M0.at (by decide) (by decide)) rfl rfl rfl ?_
      refine zJ_aload_n dX9_ended_73 rfl ?_
      refine zJ_iconst (v := 0) dX9_ended_74 (by decide) ?_
      refine zJ_puti dX9_ended_75 fX9_317 (fun q h => by cases h; rfl) (by first | rfl | assumption | exact M0.at (by decide) (by decide)) rfl rfl rfl ?_
      refine zJ_aload_n dX9_ended_78 rfl ?_
      refine zJ_geti dX9_ended_79 fX9_320 (by first | rfl | assumption | exact M0.at (by decide) (by decide)) rfl ?_
      rw [show (zsi (zsi (zsi (zrow (zsi w 100 0 0) 158 (fun q => if e * 20 ≤ q ∧ q < e * 20 + 20 then w.2.1 157 (q - e * 20) else w.2.1 158 q)) 159 e (nI n)) 100 56 (nI (e + 1))) 100 55 0).2.1 100 56 = nI (e + 1) by simp [zsi]]
      exact zJ_iret dX9_ended_82 rfl (by decide) (by decide) (hQ _ _ ⟨by simp [zrow, zsi], Or.inr ⟨he9, rfl, rfl⟩⟩)
    · have hj9 : j < 20 := Nat.lt_of_not_le fun hq9 => h21 (by exact (nI_leI (a := 20) (b := j) (by omega) (by omega)).mpr hq9)
      refine zJ_aload_n dX9_ended_24 rfl ?_
      refine zJ_getr (j := 158) dX9_ended_25 fX9_95 (by first | rfl | assumption | exact M0.at (by decide) (by decide)) rfl (by first | rfl | assumption | exact M0.rf (by decide) rfl) ?_
      refine zJ_bipush (v := 20) dX9_ended_28 (by decide) ?_
      refine zJ_aload_n dX9_ended_30 rfl ?_
      refine zJ_geti dX9_ended_31 fX9_320 (by first | rfl | assumption | exact M0.at (by decide) (by decide)) rfl ?_
      rw [show (zrow (zsi w 100 0 0) 158 (fun q => if e * 20 ≤ q ∧ q < e * 20 + j then w.2.1 157 (q - e * 20) else w.2.1 158 q)).2.1 100 56 = nI e by simp [zrow, zsi, h56]]
      refine zJ_imul dX9_ended_34 ?_
      refine zJ_iload_n dX9_ended_35 rfl ?_
      refine zJ_iadd dX9_ended_36 ?_
      refine zJ_aload_n dX9_ended_37 rfl ?_
      refine zJ_getr (j := 157) dX9_ended_38 fX9_92 (by first | rfl | assumption | exact M0.at (by decide) (by decide)) rfl (by first | rfl | assumption | exact M0.rf (by decide) rfl) ?_
      refine zJ_iload_n dX9_ended_41 rfl ?_
      refine zJ_ialdN (i := j) (v := (w.2.1 157 j)) dX9_ended_42 (by first | rfl | assumption | exact M0.at (by decide) (by decide)) rfl (by omega) (by decide) (by simp [zrow, zsi]) ?_
      refine zJ_iastN (i := (e * 20 + j)) dX9_ended_43 (by first | rfl | assumption | exact M0.at (by decide) (by decide)) (na_20 _ _) (by omega) (by decide) ?_
      refine zJ_iinc (ls2 := fun x44 => [(1, .int x44), (0, .ref 100)]) dX9_ended_44 rfl (by decide) (fun _ => rfl) (fun x44 ex44 => ?_)
      refine zJ_goto (tgt := 18) dX9_ended_47 (by decide) ?_
      rw [ex44, show nI j + Int32.ofInt 1 = nI (j + 1) from nI_1 _]
      refine zJ_w ?_ (ih (j + 1) (by omega) (by omega))
      rw [zsi_row, zrow_get, zrow_row]
      refine congrArg (zrow (zsi w 100 0 0) 158) (funext fun q => ?_)
      by_cases h : q = e * 20 + j
      · rw [if_pos h, if_pos (by omega), h, show e * 20 + j - e * 20 = j by omega]
      · rw [if_neg h]
        by_cases h2 : e * 20 ≤ q ∧ q < e * 20 + j
        · rw [if_pos h2, if_pos (by omega)]
        · rw [if_neg h2, if_neg (by omega)]
  refine zJ_aload_n dX9_ended_0 rfl ?_
  refine zJ_iconst (v := 0) dX9_ended_1 (by decide) ?_
  refine zJ_puti dX9_ended_2 fX9_170 (fun q h => by cases h; rfl) (by first | rfl | assumption | exact M0.at (by decide) (by decide)) rfl rfl rfl ?_
  refine zJ_aload_n dX9_ended_5 rfl ?_
  refine zJ_geti dX9_ended_6 fX9_320 (by first | rfl | assumption | exact M0.at (by decide) (by decide)) rfl ?_
  rw [h561]
  refine zJ_bipush (v := 20) dX9_ended_9 (by decide) ?_
  refine zJ_icmp_ne (tgt := 16) dX9_ended_11 (by decide) (fun h11 => ?_) (fun h11 => ?_)
  · refine zJ_iconst (v := 0) dX9_ended_16 (by decide) ?_
    refine zJ_istore_n (ls2 := fun x17 => [(1, .int x17), (0, .ref 100)]) dX9_ended_17 (by decide) (fun _ => rfl) (fun x17 ex17 => ?_)
    obtain rfl : x17 = (nI 0) := ex17
    refine zJ_w ?_ (L (Nat.lt_of_le_of_ne he fun h => h11 (by rw [h]; rfl)) 0 (Nat.zero_le _))
    refine (zrow_self (zsi w 100 0 0) 158).symm.trans (congrArg (zrow (zsi w 100 0 0) 158) (funext fun q => ?_))
    rw [if_neg (by omega)]; simp [zsi]
  · have he20 : e = 20 := (nI_eq (b := 20) (by omega) (by decide)).mp h11
    refine zJ_iconst (v := (-1)) dX9_ended_14 (by decide) ?_
    exact zJ_iret dX9_ended_15 rfl (by decide) (by decide) (hQ _ _ ⟨by simp [zsi], Or.inl ⟨he20, rfl, rfl⟩⟩)
