theorem zbits_s (f : Nat → Bool) (n : Nat) : zbits f (n + 1) = zbits f n + (if f n then 2 ^ n else 0) := rfl
theorem zbits_ext {f : Nat → Bool} {p n : Nat} (hp : p ≤ n) (h : ∀ y, p ≤ y → y < n → f y = false) : zbits f p = zbits f n := by
  have : ∀ d, p + d ≤ n → zbits f (p + d) = zbits f p := by
    intro d
    induction d with
    | zero => intro _; rfl
    | succ d ih =>
      intro hd
      rw [show p + (d + 1) = (p + d) + 1 by omega, zbits_s, ih (by omega), h (p + d) (by omega) (by omega)]
      rfl
  have := this (n - p) (by omega)
  rw [show p + (n - p) = n by omega] at this
  exact this.symm
set_option maxRecDepth 100000 in
theorem c_Mo_person (Δ : zD) (w : zW) (U : zTo) (hMu : zMu w U) (hU : zTok U) (h13 : U.1 13 = 0) (x y : Int32) : zMp Δ 2 yX9_person mX9_person [.ref 100, .int x, .int y] w (fun r c => (¬ ((∃ p, p < U.1 0 ∧ x = nI p) ∧ ∃ q, q ≤ 2 ∧ y = nI q) ∧ c = zsi (zsi w 100 0 0) 100 0 1) ∨ (∃ p q, p < U.1 0 ∧ x = nI p ∧ q ≤ 2 ∧ y = nI q ∧ c = zsi w 100 0 0 ∧ r = some (.int (nI (if q = 0 then U.2.1 p else if q = 1 then (if U.2.1 p = 1 then 0 else U.2.2.1 p) else zkn U p))))) := by
  refine zMp.of mfX9_person (Nat.le_of_ble_eq_true rfl) (fun QR hQ => ?_)
  have hMu0 := hMu
  obtain ⟨hM, u1, u2, u3, u4, u5, u6, u7, u8, u9, uso, unu, uwt⟩ := hMu
  have hp8 := hU.1
  have hU0 := hU
  have M0 : zMs (zsi w 100 0 0) := hM
  have z0 : (zsi w 100 0 0).2.1 100 0 = 0 := by simp [zsi]
  have hMu1 : zMu (zsi w 100 0 0) U := hMu0.fm (zFM.i (l := [0]) (by decide)) (by decide)
  have hp1 : (zsi w 100 0 0).2.1 100 1 = nI (U.1 0) := hMu1.2.1
  have hpp := hU.2.2.2.2.2.2.2.2.2.2.1
  have hpw := hU.2.2.2.2.2.2.2.2.2.2.2
  by_cases hx : ∃ p, p < U.1 0 ∧ x = nI p
  · by_cases hy : ∃ q, 0 ≤ q ∧ q ≤ 2 ∧ y = nI q
    · obtain ⟨p, hp, rfl⟩ := hx
      obtain ⟨q, -, hq, rfl⟩ := hy
      have hso := (hpp p).1
      have m10 : (zsi w 100 0 0).2.1 110 p = nI (U.2.1 p) := hMu1.2.2.2.2.2.2.2.2.2.2.1 p hp
      have m11 : (zsi w 100 0 0).2.1 111 p = nI (U.2.2.1 p) := hMu1.2.2.2.2.2.2.2.2.2.2.2.1 p hp
      have m12 : ∀ q, q < U.1 0 → (zsi w 100 0 0).2.1 112 (p * 8 + q) = nI (U.2.2.2 (p * 8 + q)) := fun q hq => hMu1.2.2.2.2.2.2.2.2.2.2.2.2 p q hp hq
      have L : ∀ j, j ≤ U.1 0 → (∀ v, v = nI (zkn U p) → QR (some (.int v)) (zsi w 100 0 0)) → zJ Δ mX9_person (zRm 2 0 0) true w.1 QR (fun _ _ => False) 0 0 73 [(4, .int (nI j)), (3, .int (nI (zbits (fun q => decide (U.2.2.2 (p * 8 + q) ≠ 0)) j))), (0, .ref 100), (1, .int (nI p)), (2, .int (nI 2))] [] (zsi w 100 0 0) := by
        refine zup (fun j hj ih hQ2 => ?_)
        have hlt := zbits_lt (fun q => decide (U.2.2.2 (p * 8 + q) ≠ 0)) j
        refine zJ_iload dX9_person_73 rfl ?_
        refine zJ_aload_n dX9_person_75 rfl ?_
        refine zJ_getiN dX9_person_76 fX9_298 (by first | rfl | assumption | exact M0.at (by decide) (by decide)) rfl hp1 ?_
        refine zJ_icmp_ge (tgt := 114) dX9_person_79 (by decide) (fun h79 => ?_) (fun h79 => ?_)
        · have hj9 : j = U.1 0 := Nat.le_antisymm hj ((nI_leI (by omega) (by omega)).mp h79)
          rw [hj9]
          refine zJ_iload_n dX9_person_114 rfl ?_
          exact zJ_iret dX9_person_115 rfl (by decide) (by decide) (hQ2 _ (by rw [zkn, zbits_ext hp8 (fun y h1 h2 => decide_eq_false (fun h => absurd ((hpw p y (by omega) h2).2 h).2 (by omega)))]))
        · have hj9 : j < U.1 0 := Nat.lt_of_not_le fun hq9 => h79 ((nI_leI (by omega) (by omega)).mpr hq9)
          have hwl := (hpw p j (by omega) (by omega)).1
          refine zJ_iload_n dX9_person_82 rfl ?_
          refine zJ_aload_n dX9_person_83 rfl ?_
          refine zJ_getr (j := 112) dX9_person_84 fX9_29 (by first | rfl | assumption | exact M0.at (by decide) (by decide)) rfl (by first | rfl | assumption | exact M0.rf (by decide) rfl) ?_
          refine zJ_bipush (v := 8) dX9_person_87 (by decide) ?_
          refine zJ_iload_n dX9_person_89 rfl ?_
          refine zJ_imul dX9_person_90 ?_
          refine zJ_iload dX9_person_91 rfl ?_
          refine zJ_iadd dX9_person_93 ?_
          refine zJ_ialdN (i := (p * 8 + j)) (v := (nI (U.2.2.2 (p * 8 + j)))) dX9_person_94 (by first | rfl | assumption | exact M0.at (by decide) (by decide)) (na_8 _ _) (by omega) (by decide) (m12 j hj9) ?_
          refine zJ_if_le (tgt := 105) dX9_person_95 (by decide) (fun h95 => ?_) (fun h95 => ?_)
          · have hz : U.2.2.2 (p * 8 + j) = 0 := Nat.le_zero.mp ((nI_leI (b := 0) (by omega) (by decide)).mp h95)
            refine zJ_iconst (v := 0) dX9_person_105 (by decide) ?_
            refine zJ_ior dX9_person_106 ?_
            refine zJ_istore_n (ls2 := fun x107 => [(3, .int x107), (4, .int (nI j)), (0, .ref 100), (1, .int (nI p)), (2, .int (nI 2))]) dX9_person_107 (by decide) (fun _ => rfl) (fun x107 ex107 => ?_)
            obtain rfl : x107 = nI (zbits (fun q => decide (U.2.2.2 (p * 8 + q) ≠ 0)) (j + 1)) := ex107.trans (by rw [zbits_s, show (0 : Int32) = nI 0 from rfl, na_or, Nat.or_zero]; simp [hz])
            refine zJ_iinc (ls2 := fun x108 => [(4, .int x108), (3, .int (nI (zbits (fun q => decide (U.2.2.2 (p * 8 + q) ≠ 0)) (j + 1)))), (0, .ref 100), (1, .int (nI p)), (2, .int (nI 2))]) dX9_person_108 rfl (by decide) (fun _ => rfl) (fun x108 ex108 => ?_)
            refine zJ_goto (tgt := 73) dX9_person_111 (by decide) ?_
            refine zJ_ls [(4, .int x108), (3, .int (nI (zbits (fun q => decide (U.2.2.2 (p * 8 + q) ≠ 0)) (j + 1)))), (0, .ref 100), (1, .int (nI p)), (2, .int (nI 2))] (by simp) ?_
            rw [ex108, show nI j + Int32.ofInt 1 = nI (j + 1) from nI_1 _]
            exact ih (j + 1) (by omega) (by omega) hQ2
          · have hz : U.2.2.2 (p * 8 + j) ≠ 0 := fun h => h95 (by rw [h]; exact Int32.le_refl _)
            refine zJ_iconst (v := 1) dX9_person_98 (by decide) ?_
            refine zJ_iload dX9_person_99 rfl ?_
            refine zJ_ishl dX9_person_101 ?_
            refine zJ_goto (tgt := 106) dX9_person_102 (by decide) ?_
            refine zJ_ior dX9_person_106 ?_
            refine zJ_istore_n (ls2 := fun x107 => [(3, .int x107), (4, .int (nI j)), (0, .ref 100), (1, .int (nI p)), (2, .int (nI 2))]) dX9_person_107 (by decide) (fun _ => rfl) (fun x107 ex107 => ?_)
            obtain rfl : x107 = nI (zbits (fun q => decide (U.2.2.2 (p * 8 + q) ≠ 0)) (j + 1)) := ex107.trans (by rw [na_shl j (by omega), zbits_or, zbits_s]; simp [hz])
            refine zJ_iinc (ls2 := fun x108 => [(4, .int x108), (3, .int (nI (zbits (fun q => decide (U.2.2.2 (p * 8 + q) ≠ 0)) (j + 1)))), (0, .ref 100), (1, .int (nI p)), (2, .int (nI 2))]) dX9_person_108 rfl (by decide) (fun _ => rfl) (fun x108 ex108 => ?_)
            refine zJ_goto (tgt := 73) dX9_person_111 (by decide) ?_
            refine zJ_ls [(4, .int x108), (3, .int (nI (zbits (fun q => decide (U.2.2.2 (p * 8 + q) ≠ 0)) (j + 1)))), (0, .ref 100), (1, .int (nI p)), (2, .int (nI 2))] (by simp) ?_
            rw [ex108, show nI j + Int32.ofInt 1 = nI (j + 1) from nI_1 _]
            exact ih (j + 1) (by omega) (by omega) hQ2
      rcases (by omega : q = 0 ∨ q = 1 ∨ q = 2) with rfl | rfl | rfl
      · refine zJ_aload_n dX9_person_0 rfl ?_
        refine zJ_iconst (v := 0) dX9_person_1 (by decide) ?_
        refine zJ_puti dX9_person_2 fX9_170 (fun q h => by cases h; rfl) (by first | rfl | assumption | exact M0.at (by decide) (by decide)) rfl rfl rfl ?_
        refine zJ_aload_n dX9_person_5 rfl ?_
        refine zJ_iload_n dX9_person_6 rfl ?_
        refine zJ_cV1 dX9_person_7 sX9_339 mfX9_isPerson ((c_Mo_isPerson Δ (zsi w 100 0 0) M0 z0 (nI p) (U.1 0) hp1 hp8).1 ⟨p, hp, rfl⟩) (by first | rfl | assumption | exact M0.at (by decide) (by decide)) rfl (Nat.le_of_ble_eq_true rfl) (by decide) (by decide) ?_
        refine zJ_if_eq (tgt := 27) dX9_person_10 (by decide) (fun h9 => False.elim (by revert h9; decide)) (fun _ => ?_)
        refine zJ_aload_n dX9_person_13 rfl ?_
        refine zJ_iload_n dX9_person_14 rfl ?_
        refine zJ_iconst (v := 0) dX9_person_15 (by decide) ?_
        refine zJ_iconst (v := 2) dX9_person_16 (by decide) ?_
        refine zJ_cS3 dX9_person_17 sX9_336 mfX9_within ((c_Mo_within Δ (zsi w 100 0 0) (nI 0) 0 2 (by decide) (by decide)).1 ⟨0, by decide, by decide, rfl⟩) (Nat.le_of_ble_eq_true rfl) (by decide) (by decide) ?_
        refine zJ_iconst (v := 1) dX9_person_20 (by decide) ?_
        refine zJ_cV2 dX9_person_21 sX9_291 mfX9_right (c_Mo_right1 Δ (zsi w 100 0 0) M0 z0 1) (by first | rfl | assumption | exact M0.at (by decide) (by decide)) rfl (Nat.le_of_ble_eq_true rfl) (by decide) (by decide) ?_
        refine zJ_if_ne (tgt := 29) dX9_person_24 (by decide) (fun _ => ?_) (fun h9 => False.elim (by revert h9; decide))
        refine zJ_iload_n dX9_person_29 rfl ?_
        refine zJ_iconst (v := 2) dX9_person_30 (by decide) ?_
        refine zJ_icmp_ge (tgt := 68) dX9_person_31 (by decide) (fun h9 => False.elim (by revert h9; decide)) (fun _ => ?_)
        refine zJ_iload_n dX9_person_34 rfl ?_
        refine zJ_if_ne (tgt := 47) dX9_person_35 (by decide) (fun h9 => False.elim (by revert h9; decide)) (fun _ => ?_)
        refine zJ_aload_n dX9_person_38 rfl ?_
        refine zJ_getr (j := 110) dX9_person_39 fX9_22 (by first | rfl | assumption | exact M0.at (by decide) (by decide)) rfl (by first | rfl | assumption | exact M0.rf (by decide) rfl) ?_
        refine zJ_iload_n dX9_person_42 rfl ?_
        refine zJ_ialdN (i := p) (v := (nI (U.2.1 p))) dX9_person_43 (by first | rfl | assumption | exact M0.at (by decide) (by decide)) rfl (by omega) (by decide) m10 ?_
        refine zJ_goto (tgt := 67) dX9_person_44 (by decide) ?_
        exact zJ_iret dX9_person_67 rfl (by decide) (by decide) (hQ _ _ (Or.inr ⟨p, 0, hp, rfl, by decide, rfl, rfl, rfl⟩))
      · refine zJ_aload_n dX9_person_0 rfl ?_
        refine zJ_iconst (v := 0) dX9_person_1 (by decide) ?_
        refine zJ_puti dX9_person_2 fX9_170 (fun q h => by cases h; rfl) (by first | rfl | assumption | exact M0.at (by decide) (by decide)) rfl rfl rfl ?_
        refine zJ_aload_n dX9_person_5 rfl ?_
        refine zJ_iload_n dX9_person_6 rfl ?_
        refine zJ_cV1 dX9_person_7 sX9_339 mfX9_isPerson ((c_Mo_isPerson Δ (zsi w 100 0 0) M0 z0 (nI p) (U.1 0) hp1 hp8).1 ⟨p, hp, rfl⟩) (by first | rfl | assumption | exact M0.at (by decide) (by decide)) rfl (Nat.le_of_ble_eq_true rfl) (by decide) (by decide) ?_
        refine zJ_if_eq (tgt := 27) dX9_person_10 (by decide) (fun h9 => False.elim (by revert h9; decide)) (fun _ => ?_)
        refine zJ_aload_n dX9_person_13 rfl ?_
        refine zJ_iload_n dX9_person_14 rfl ?_
        refine zJ_iconst (v := 0) dX9_person_15 (by decide) ?_
        refine zJ_iconst (v := 2) dX9_person_16 (by decide) ?_
        refine zJ_cS3 dX9_person_17 sX9_336 mfX9_within ((c_Mo_within Δ (zsi w 100 0 0) (nI 1) 0 2 (by decide) (by decide)).1 ⟨1, by decide, by decide, rfl⟩) (Nat.le_of_ble_eq_true rfl) (by decide) (by decide) ?_
        refine zJ_iconst (v := 1) dX9_person_20 (by decide) ?_
        refine zJ_cV2 dX9_person_21 sX9_291 mfX9_right (c_Mo_right1 Δ (zsi w 100 0 0) M0 z0 1) (by first | rfl | assumption | exact M0.at (by decide) (by decide)) rfl (Nat.le_of_ble_eq_true rfl) (by decide) (by decide) ?_
        refine zJ_if_ne (tgt := 29) dX9_person_24 (by decide) (fun _ => ?_) (fun h9 => False.elim (by revert h9; decide))
        refine zJ_iload_n dX9_person_29 rfl ?_
        refine zJ_iconst (v := 2) dX9_person_30 (by decide) ?_
        refine zJ_icmp_ge (tgt := 68) dX9_person_31 (by decide) (fun h9 => False.elim (by revert h9; decide)) (fun _ => ?_)
        refine zJ_iload_n dX9_person_34 rfl ?_
        refine zJ_if_ne (tgt := 47) dX9_person_35 (by decide) (fun _ => ?_) (fun h9 => False.elim (by revert h9; decide))
        refine zJ_aload_n dX9_person_47 rfl ?_
        refine zJ_getr (j := 110) dX9_person_48 fX9_22 (by first | rfl | assumption | exact M0.at (by decide) (by decide)) rfl (by first | rfl | assumption | exact M0.rf (by decide) rfl) ?_
        refine zJ_iload_n dX9_person_51 rfl ?_
        refine zJ_ialdN (i := p) (v := (nI (U.2.1 p))) dX9_person_52 (by first | rfl | assumption | exact M0.at (by decide) (by decide)) rfl (by omega) (by decide) m10 ?_
        refine zJ_iconst (v := 1) dX9_person_53 (by decide) ?_
        refine zJ_icmp_ne (tgt := 61) dX9_person_54 (by decide) (fun h54 => ?_) (fun h54 => ?_)
        · have hs1 : ¬ U.2.1 p = 1 := fun h => h54 (by rw [h]; rfl)
          refine zJ_aload_n dX9_person_61 rfl ?_
          refine zJ_getr (j := 111) dX9_person_62 fX9_26 (by first | rfl | assumption | exact M0.at (by decide) (by decide)) rfl (by first | rfl | assumption | exact M0.rf (by decide) rfl) ?_
          refine zJ_iload_n dX9_person_65 rfl ?_
          refine zJ_ialdN (i := p) (v := (nI (U.2.2.1 p))) dX9_person_66 (by first | rfl | assumption | exact M0.at (by decide) (by decide)) rfl (by omega) (by decide) m11 ?_
          exact zJ_iret dX9_person_67 rfl (by decide) (by decide) (hQ _ _ (Or.inr ⟨p, 1, hp, rfl, by decide, rfl, rfl, by simp [hs1]⟩))
        · have hs1 : U.2.1 p = 1 := (nI_eq (b := 1) (by omega) (by decide)).mp h54
          refine zJ_iconst (v := 0) dX9_person_57 (by decide) ?_
          refine zJ_goto (tgt := 67) dX9_person_58 (by decide) ?_
          exact zJ_iret dX9_person_67 rfl (by decide) (by decide) (hQ _ _ (Or.inr ⟨p, 1, hp, rfl, by decide, rfl, rfl, by simp [hs1]; rfl⟩))
      · refine zJ_aload_n dX9_person_0 rfl ?_
        refine zJ_iconst (v := 0) dX9_person_1 (by decide) ?_
        refine zJ_puti dX9_person_2 fX9_170 (fun q h => by cases h; rfl) (by first | rfl | assumption | exact M0.at (by decide) (by decide)) rfl rfl rfl ?_
        refine zJ_aload_n dX9_person_5 rfl ?_
        refine zJ_iload_n dX9_person_6 rfl ?_
        refine zJ_cV1 dX9_person_7 sX9_339 mfX9_isPerson ((c_Mo_isPerson Δ (zsi w 100 0 0) M0 z0 (nI p) (U.1 0) hp1 hp8).1 ⟨p, hp, rfl⟩) (by first | rfl | assumption | exact M0.at (by decide) (by decide)) rfl (Nat.le_of_ble_eq_true rfl) (by decide) (by decide) ?_
        refine zJ_if_eq (tgt := 27) dX9_person_10 (by decide) (fun h9 => False.elim (by revert h9; decide)) (fun _ => ?_)
        refine zJ_aload_n dX9_person_13 rfl ?_
        refine zJ_iload_n dX9_person_14 rfl ?_
        refine zJ_iconst (v := 0) dX9_person_15 (by decide) ?_
        refine zJ_iconst (v := 2) dX9_person_16 (by decide) ?_
        refine zJ_cS3 dX9_person_17 sX9_336 mfX9_within ((c_Mo_within Δ (zsi w 100 0 0) (nI 2) 0 2 (by decide) (by decide)).1 ⟨2, by decide, by decide, rfl⟩) (Nat.le_of_ble_eq_true rfl) (by decide) (by decide) ?_
        refine zJ_iconst (v := 1) dX9_person_20 (by decide) ?_
        refine zJ_cV2 dX9_person_21 sX9_291 mfX9_right (c_Mo_right1 Δ (zsi w 100 0 0) M0 z0 1) (by first | rfl | assumption | exact M0.at (by decide) (by decide)) rfl (Nat.le_of_ble_eq_true rfl) (by decide) (by decide) ?_
        refine zJ_if_ne (tgt := 29) dX9_person_24 (by decide) (fun _ => ?_) (fun h9 => False.elim (by revert h9; decide))
        refine zJ_iload_n dX9_person_29 rfl ?_
        refine zJ_iconst (v := 2) dX9_person_30 (by decide) ?_
        refine zJ_icmp_ge (tgt := 68) dX9_person_31 (by decide) (fun _ => ?_) (fun h9 => False.elim (by revert h9; decide))
        refine zJ_iconst (v := 0) dX9_person_68 (by decide) ?_
        refine zJ_istore_n (ls2 := fun x69 => [(3, .int x69), (0, .ref 100), (1, .int (nI p)), (2, .int (nI 2))]) dX9_person_69 (by decide) (fun _ => rfl) (fun x69 ex69 => ?_)
        obtain rfl : x69 = (nI (zbits (fun q => decide (U.2.2.2 (p * 8 + q) ≠ 0)) 0)) := ex69
        refine zJ_iconst (v := 0) dX9_person_70 (by decide) ?_
        refine zJ_istore (ls2 := fun x71 => [(4, .int x71), (3, .int (nI (zbits (fun q => decide (U.2.2.2 (p * 8 + q) ≠ 0)) 0))), (0, .ref 100), (1, .int (nI p)), (2, .int (nI 2))]) dX9_person_71 (by decide) (fun _ => rfl) (fun x71 ex71 => ?_)
        obtain rfl : x71 = (nI 0) := ex71
        exact L 0 (Nat.zero_le _) (fun v hv => hQ _ _ (Or.inr ⟨p, 2, hp, rfl, by decide, rfl, rfl, by rw [hv]; rfl⟩))
    · skip
      refine zJ_aload_n dX9_person_0 rfl ?_
      refine zJ_iconst (v := 0) dX9_person_1 (by decide) ?_
      refine zJ_puti dX9_person_2 fX9_170 (fun q h => by cases h; rfl) (by first | rfl | assumption | exact M0.at (by decide) (by decide)) rfl rfl rfl ?_
      refine zJ_aload_n dX9_person_5 rfl ?_
      refine zJ_iload_n dX9_person_6 rfl ?_
      refine zJ_cV1 dX9_person_7 sX9_339 mfX9_isPerson ((c_Mo_isPerson Δ (zsi w 100 0 0) M0 z0 x (U.1 0) hp1 hp8).1 hx) (by first | rfl | assumption | exact M0.at (by decide) (by decide)) rfl (Nat.le_of_ble_eq_true rfl) (by decide) (by decide) ?_
      refine zJ_if_eq (tgt := 27) dX9_person_10 (by decide) (fun h9 => False.elim (by revert h9; decide)) (fun _ => ?_)
      refine zJ_aload_n dX9_person_13 rfl ?_
      refine zJ_iload_n dX9_person_14 rfl ?_
      refine zJ_iconst (v := 0) dX9_person_15 (by decide) ?_
      refine zJ_iconst (v := 2) dX9_person_16 (by decide) ?_
      refine zJ_cS3 dX9_person_17 sX9_336 mfX9_within ((c_Mo_within Δ (zsi w 100 0 0) y 0 2 (by decide) (by decide)).2 hy) (Nat.le_of_ble_eq_true rfl) (by decide) (by decide) ?_
      refine zJ_iconst (v := 1) dX9_person_20 (by decide) ?_
      refine zJ_cV2 dX9_person_21 sX9_291 mfX9_right (c_Mo_right0 Δ (zsi w 100 0 0) M0 z0 1 (by decide)) (by first | rfl | assumption | exact M0.at (by decide) (by decide)) rfl (Nat.le_of_ble_eq_true rfl) (by decide) (by decide) ?_
      refine zJ_if_ne (tgt := 29) dX9_person_24 (by decide) (fun h9 => False.elim (by revert h9; decide)) (fun _ => ?_)
      refine zJ_iconst (v := 0) dX9_person_27 (by decide) ?_
      exact zJ_iret dX9_person_28 rfl (by decide) (by decide) (hQ _ _ (Or.inl ⟨fun h => hy (by obtain ⟨-, a, b, c⟩ := h; exact ⟨a, Nat.zero_le _, b, c⟩), rfl⟩))
  · skip
    refine zJ_aload_n dX9_person_0 rfl ?_
    refine zJ_iconst (v := 0) dX9_person_1 (by decide) ?_
    refine zJ_puti dX9_person_2 fX9_170 (fun q h => by cases h; rfl) (by first | rfl | assumption | exact M0.at (by decide) (by decide)) rfl rfl rfl ?_
    refine zJ_aload_n dX9_person_5 rfl ?_
    refine zJ_iload_n dX9_person_6 rfl ?_
    refine zJ_cV1 dX9_person_7 sX9_339 mfX9_isPerson ((c_Mo_isPerson Δ (zsi w 100 0 0) M0 z0 x (U.1 0) hp1 hp8).2 hx) (by first | rfl | assumption | exact M0.at (by decide) (by decide)) rfl (Nat.le_of_ble_eq_true rfl) (by decide) (by decide) ?_
    refine zJ_if_eq (tgt := 27) dX9_person_10 (by decide) (fun _ => ?_) (fun h9 => False.elim (by revert h9; decide))
    refine zJ_iconst (v := 0) dX9_person_27 (by decide) ?_
    exact zJ_iret dX9_person_28 rfl (by decide) (by decide) (hQ _ _ (Or.inl ⟨fun h => hx h.1, rfl⟩))
set_option maxRecDepth 100000 in
theorem c_Mo_weight (Δ : zD) (w : zW) (U : zTo) (hMu : zMu w U) (hU : zTok U) (h13 : U.1 13 = 0) (x y : Int32) : zMp Δ 2 yX9_weight mX9_weight [.ref 100, .int x, .int y] w (fun r c => (¬ ((∃ p, p < U.1 0 ∧ x = nI p) ∧ ∃ q, q < U.1 0 ∧ y = nI q) ∧ c = zsi (zsi w 100 0 0) 100 0 1) ∨ (∃ p q, p < U.1 0 ∧ x = nI p ∧ q < U.1 0 ∧ y = nI q ∧ c = zsi w 100 0 0 ∧ r = some (.int (nI (U.2.2.2 (p * 8 + q)))))) := by
  refine zMp.of mfX9_weight (Nat.le_of_ble_eq_true rfl) (fun QR hQ => ?_)
  have hMu0 := hMu
  obtain ⟨hM, u1, u2, u3, u4, u5, u6, u7, u8, u9, uso, unu, uwt⟩ := hMu
  have hp8 := hU.1
  have hU0 := hU
  have M0 : zMs (zsi w 100 0 0) := hM
  have z0 : (zsi w 100 0 0).2.1 100 0 = 0 := by simp [zsi]
  have hMu1 : zMu (zsi w 100 0 0) U := hMu0.fm (zFM.i (l := [0]) (by decide)) (by decide)
  have hp1 : (zsi w 100 0 0).2.1 100 1 = nI (U.1 0) := hMu1.2.1
  by_cases hx : ∃ p, p < U.1 0 ∧ x = nI p
  · by_cases hy : ∃ q, q < U.1 0 ∧ y = nI q
    · obtain ⟨p, hp, rfl⟩ := hx
      obtain ⟨q, hq, rfl⟩ := hy
      have m12 : (zsi w 100 0 0).2.1 112 (p * 8 + q) = nI (U.2.2.2 (p * 8 + q)) := hMu1.2.2.2.2.2.2.2.2.2.2.2.2 p q hp hq
      refine zJ_aload_n dX9_weight_0 rfl ?_
      refine zJ_iconst (v := 0) dX9_weight_1 (by decide) ?_
      refine zJ_puti dX9_weight_2 fX9_170 (fun q h => by cases h; rfl) (by first | rfl | assumption | exact M0.at (by decide) (by decide)) rfl rfl rfl ?_
      refine zJ_aload_n dX9_weight_5 rfl ?_
      refine zJ_iload_n dX9_weight_6 rfl ?_
      refine zJ_cV1 dX9_weight_7 sX9_339 mfX9_isPerson ((c_Mo_isPerson Δ (zsi w 100 0 0) M0 z0 (nI p) (U.1 0) hp1 hp8).1 ⟨p, hp, rfl⟩) (by first | rfl | assumption | exact M0.at (by decide) (by decide)) rfl (Nat.le_of_ble_eq_true rfl) (by decide) (by decide) ?_
      refine zJ_if_eq (tgt := 35) dX9_weight_10 (by decide) (fun h9 => False.elim (by revert h9; decide)) (fun _ => ?_)
      refine zJ_aload_n dX9_weight_13 rfl ?_
      refine zJ_iload_n dX9_weight_14 rfl ?_
      refine zJ_cV1 dX9_weight_15 sX9_339 mfX9_isPerson ((c_Mo_isPerson Δ (zsi w 100 0 0) M0 z0 (nI q) (U.1 0) hp1 hp8).1 ⟨q, hq, rfl⟩) (by first | rfl | assumption | exact M0.at (by decide) (by decide)) rfl (Nat.le_of_ble_eq_true rfl) (by decide) (by decide) ?_
      refine zJ_if_eq (tgt := 35) dX9_weight_18 (by decide) (fun h9 => False.elim (by revert h9; decide)) (fun _ => ?_)
      refine zJ_aload_n dX9_weight_21 rfl ?_
      refine zJ_getr (j := 112) dX9_weight_22 fX9_29 (by first | rfl | assumption | exact M0.at (by decide) (by decide)) rfl (by first | rfl | assumption | exact M0.rf (by decide) rfl) ?_
      refine zJ_bipush (v := 8) dX9_weight_25 (by decide) ?_
      refine zJ_iload_n dX9_weight_27 rfl ?_
      refine zJ_imul dX9_weight_28 ?_
      refine zJ_iload_n dX9_weight_29 rfl ?_
      refine zJ_iadd dX9_weight_30 ?_
      refine zJ_ialdN (i := (p * 8 + q)) (v := (nI (U.2.2.2 (p * 8 + q)))) dX9_weight_31 (by first | rfl | assumption | exact M0.at (by decide) (by decide)) (na_8 _ _) (by omega) (by decide) m12 ?_
      refine zJ_goto (tgt := 36) dX9_weight_32 (by decide) ?_
      exact zJ_iret dX9_weight_36 rfl (by decide) (by decide) (hQ _ _ (Or.inr ⟨p, q, hp, rfl, hq, rfl, rfl, rfl⟩))
    · skip
      refine zJ_aload_n dX9_weight_0 rfl ?_
      refine zJ_iconst (v := 0) dX9_weight_1 (by decide) ?_
      refine zJ_puti dX9_weight_2 fX9_170 (fun q h => by cases h; rfl) (by first | rfl | assumption | exact M0.at (by decide) (by decide)) rfl rfl rfl ?_
      refine zJ_aload_n dX9_weight_5 rfl ?_
      refine zJ_iload_n dX9_weight_6 rfl ?_
      refine zJ_cV1 dX9_weight_7 sX9_339 mfX9_isPerson ((c_Mo_isPerson Δ (zsi w 100 0 0) M0 z0 x (U.1 0) hp1 hp8).1 hx) (by first | rfl | assumption | exact M0.at (by decide) (by decide)) rfl (Nat.le_of_ble_eq_true rfl) (by decide) (by decide) ?_
      refine zJ_if_eq (tgt := 35) dX9_weight_10 (by decide) (fun h9 => False.elim (by revert h9; decide)) (fun _ => ?_)
      refine zJ_aload_n dX9_weight_13 rfl ?_
      refine zJ_iload_n dX9_weight_14 rfl ?_
      refine zJ_cV1 dX9_weight_15 sX9_339 mfX9_isPerson ((c_Mo_isPerson Δ (zsi w 100 0 0) M0 z0 y (U.1 0) hp1 hp8).2 hy) (by first | rfl | assumption | exact M0.at (by decide) (by decide)) rfl (Nat.le_of_ble_eq_true rfl) (by decide) (by decide) ?_
      refine zJ_if_eq (tgt := 35) dX9_weight_18 (by decide) (fun _ => ?_) (fun h9 => False.elim (by revert h9; decide))
      refine zJ_iconst (v := 0) dX9_weight_35 (by decide) ?_
      exact zJ_iret dX9_weight_36 rfl (by decide) (by decide) (hQ _ _ (Or.inl ⟨fun h => hy h.2, rfl⟩))
  · skip
    refine zJ_aload_n dX9_weight_0 rfl ?_
    refine zJ_iconst (v := 0) dX9_weight_1 (by decide) ?_
    refine zJ_puti dX9_weight_2 fX9_170 (fun q h => by cases h; rfl) (by first | rfl | assumption | exact M0.at (by decide) (by decide)) rfl rfl rfl ?_
    refine zJ_aload_n dX9_weight_5 rfl ?_
    refine zJ_iload_n dX9_weight_6 rfl ?_
    refine zJ_cV1 dX9_weight_7 sX9_339 mfX9_isPerson ((c_Mo_isPerson Δ (zsi w 100 0 0) M0 z0 x (U.1 0) hp1 hp8).2 hx) (by first | rfl | assumption | exact M0.at (by decide) (by decide)) rfl (Nat.le_of_ble_eq_true rfl) (by decide) (by decide) ?_
    refine zJ_if_eq (tgt := 35) dX9_weight_10 (by decide) (fun _ => ?_) (fun h9 => False.elim (by revert h9; decide))
    refine zJ_iconst (v := 0) dX9_weight_35 (by decide) ?_
    exact zJ_iret dX9_weight_36 rfl (by decide) (by decide) (hQ _ _ (Or.inl ⟨fun h => hx h.1, rfl⟩))
set_option maxRecDepth 100000 in
theorem c_Mo_guess (Δ : zD) (w : zW) (U : zTo) (hMu : zMu w U) (hU : zTok U) (h13 : U.1 13 = 0) (a b s n : Int32) : zMp Δ 2 yX9_guess mX9_guess [.ref 100, .int a, .int b, .int s, .int n] w (fun r c => (¬ ((∃ g, g < 4 ∧ a = nI g) ∧ ∃ p, p < U.1 0 ∧ b = nI p) ∧ c = zsi (zsi w 100 0 0) 100 0 1) ∨ (∃ g p, g < 4 ∧ a = nI g ∧ p < U.1 0 ∧ b = nI p ∧ ((¬ zgok s n ∧ r = some (.int 0) ∧ c = zsi w 100 0 0) ∨ (zgok s n ∧ r = some (.int 1) ∧ c = zsi (zsi (zsi w 100 0 0) 162 (g * 8 + p) s) 163 (g * 8 + p) (if s = 1 then 0 else n))))) := by
  refine zMp.of mfX9_guess (Nat.le_of_ble_eq_true rfl) (fun QR hQ => ?_)
  have hMu0 := hMu
  obtain ⟨hM, u1, u2, u3, u4, u5, u6, u7, u8, u9, uso, unu, uwt⟩ := hMu
  have hp8 := hU.1
  have hU0 := hU
  have M0 : zMs (zsi w 100 0 0) := hM
  have z0 : (zsi w 100 0 0).2.1 100 0 = 0 := by simp [zsi]
  have hMu1 : zMu (zsi w 100 0 0) U := hMu0.fm (zFM.i (l := [0]) (by decide)) (by decide)
  have hp1 : (zsi w 100 0 0).2.1 100 1 = nI (U.1 0) := hMu1.2.1
  by_cases hg : ∃ g, 0 ≤ g ∧ g ≤ 3 ∧ a = nI g
  · by_cases hy : ∃ p, p < U.1 0 ∧ b = nI p
    · obtain ⟨g, -, hg3, rfl⟩ := hg
      obtain ⟨p, hp, rfl⟩ := hy
      have hg4 : g < 4 := by omega
      by_cases hs : ∃ sv, 0 ≤ sv ∧ sv ≤ 3 ∧ s = nI sv
      · obtain ⟨sv, -, hsv, rfl⟩ := hs
        by_cases hs1 : sv = 1
        · subst hs1
          have hgo : zgok (nI 1) n := ⟨1, by decide, rfl, fun h => absurd rfl h⟩
          refine zJ_aload_n dX9_guess_0 rfl ?_
          refine zJ_iconst (v := 0) dX9_guess_1 (by decide) ?_
          refine zJ_puti dX9_guess_2 fX9_170 (fun q h => by cases h; rfl) (by first | rfl | assumption | exact M0.at (by decide) (by decide)) rfl rfl rfl ?_
          refine zJ_aload_n dX9_guess_5 rfl ?_
          refine zJ_iload_n dX9_guess_6 rfl ?_
          refine zJ_iconst (v := 0) dX9_guess_7 (by decide) ?_
          refine zJ_iconst (v := 3) dX9_guess_8 (by decide) ?_
          refine zJ_cS3 dX9_guess_9 sX9_336 mfX9_within ((c_Mo_within Δ (zsi w 100 0 0) (nI g) 0 3 (by decide) (by decide)).1 ⟨g, Nat.zero_le _, hg3, rfl⟩) (Nat.le_of_ble_eq_true rfl) (by decide) (by decide) ?_
          refine zJ_iconst (v := 1) dX9_guess_12 (by decide) ?_
          refine zJ_cV2 dX9_guess_13 sX9_291 mfX9_right (c_Mo_right1 Δ (zsi w 100 0 0) M0 z0 1) (by first | rfl | assumption | exact M0.at (by decide) (by decide)) rfl (Nat.le_of_ble_eq_true rfl) (by decide) (by decide) ?_
          refine zJ_if_eq (tgt := 27) dX9_guess_16 (by decide) (fun h9 => False.elim (by revert h9; decide)) (fun _ => ?_)
          refine zJ_aload_n dX9_guess_19 rfl ?_
          refine zJ_iload_n dX9_guess_20 rfl ?_
          refine zJ_cV1 dX9_guess_21 sX9_339 mfX9_isPerson ((c_Mo_isPerson Δ (zsi w 100 0 0) M0 z0 (nI p) (U.1 0) hp1 hp8).1 ⟨p, hp, rfl⟩) (by first | rfl | assumption | exact M0.at (by decide) (by decide)) rfl (Nat.le_of_ble_eq_true rfl) (by decide) (by decide) ?_
          refine zJ_if_ne (tgt := 29) dX9_guess_24 (by decide) (fun _ => ?_) (fun h9 => False.elim (by revert h9; decide))
          refine zJ_iload_n dX9_guess_29 rfl ?_
          refine zJ_iconst (v := 0) dX9_guess_30 (by decide) ?_
          refine zJ_iconst (v := 3) dX9_guess_31 (by decide) ?_
          refine zJ_cS3 dX9_guess_32 sX9_336 mfX9_within ((c_Mo_within Δ (zsi w 100 0 0) (nI 1) 0 3 (by decide) (by decide)).1 ⟨1, by decide, by decide, rfl⟩) (Nat.le_of_ble_eq_true rfl) (by decide) (by decide) ?_
          refine zJ_if_eq (tgt := 66) dX9_guess_35 (by decide) (fun h9 => False.elim (by revert h9; decide)) (fun _ => ?_)
          refine zJ_iload_n dX9_guess_38 rfl ?_
          refine zJ_iconst (v := 1) dX9_guess_39 (by decide) ?_
          refine zJ_icmp_eq (tgt := 68) dX9_guess_40 (by decide) (fun _ => ?_) (fun h9 => False.elim (by revert h9; decide))
          refine zJ_aload_n dX9_guess_68 rfl ?_
          refine zJ_getr (j := 162) dX9_guess_69 fX9_104 (by first | rfl | assumption | exact M0.at (by decide) (by decide)) rfl (by first | rfl | assumption | exact M0.rf (by decide) rfl) ?_
          refine zJ_bipush (v := 8) dX9_guess_72 (by decide) ?_
          refine zJ_iload_n dX9_guess_74 rfl ?_
          refine zJ_imul dX9_guess_75 ?_
          refine zJ_iload_n dX9_guess_76 rfl ?_
          refine zJ_iadd dX9_guess_77 ?_
          refine zJ_iload_n dX9_guess_78 rfl ?_
          refine zJ_iastN (i := (g * 8 + p)) dX9_guess_79 (by first | rfl | assumption | exact M0.at (by decide) (by decide)) (na_8 _ _) (by omega) (by decide) ?_
          refine zJ_aload_n dX9_guess_80 rfl ?_
          refine zJ_getr (j := 163) dX9_guess_81 fX9_107 (by first | rfl | assumption | exact M0.at (by decide) (by decide)) rfl (by first | rfl | assumption | exact M0.rf (by decide) rfl) ?_
          refine zJ_bipush (v := 8) dX9_guess_84 (by decide) ?_
          refine zJ_iload_n dX9_guess_86 rfl ?_
          refine zJ_imul dX9_guess_87 ?_
          refine zJ_iload_n dX9_guess_88 rfl ?_
          refine zJ_iadd dX9_guess_89 ?_
          refine zJ_iload_n dX9_guess_90 rfl ?_
          refine zJ_iconst (v := 1) dX9_guess_91 (by decide) ?_
          refine zJ_icmp_ne (tgt := 99) dX9_guess_92 (by decide) (fun h9 => False.elim (by revert h9; decide)) (fun _ => ?_)
          refine zJ_iconst (v := 0) dX9_guess_95 (by decide) ?_
          refine zJ_goto (tgt := 101) dX9_guess_96 (by decide) ?_
          refine zJ_iastN (i := (g * 8 + p)) dX9_guess_101 (by first | rfl | assumption | exact M0.at (by decide) (by decide)) (na_8 _ _) (by omega) (by decide) ?_
          refine zJ_iconst (v := 1) dX9_guess_102 (by decide) ?_
          exact zJ_zret dX9_guess_103 rfl rfl (by decide) (by decide) (hQ _ _ (Or.inr ⟨g, p, hg4, rfl, hp, rfl, Or.inr ⟨hgo, rfl, rfl⟩⟩))
        · have h1i : ¬ nI sv = 1 := fun h => hs1 ((nI_eq (b := 1) (by omega) (by decide)).mp h)
          by_cases hs2 : sv = 2
          · subst hs2
            by_cases hn : ∃ nv, 0 ≤ nv ∧ nv ≤ 1000 ∧ n = nI nv
            · obtain ⟨nv, -, hnv, rfl⟩ := hn
              have hgo : zgok (nI 2) (nI nv) := ⟨2, by decide, rfl, fun _ => ⟨nv, by simp only [if_true]; exact hnv, rfl⟩⟩
              refine zJ_aload_n dX9_guess_0 rfl ?_
              refine zJ_iconst (v := 0) dX9_guess_1 (by decide) ?_
              refine zJ_puti dX9_guess_2 fX9_170 (fun q h => by cases h; rfl) (by first | rfl | assumption | exact M0.at (by decide) (by decide)) rfl rfl rfl ?_
              refine zJ_aload_n dX9_guess_5 rfl ?_
              refine zJ_iload_n dX9_guess_6 rfl ?_
              refine zJ_iconst (v := 0) dX9_guess_7 (by decide) ?_
              refine zJ_iconst (v := 3) dX9_guess_8 (by decide) ?_
              refine zJ_cS3 dX9_guess_9 sX9_336 mfX9_within ((c_Mo_within Δ (zsi w 100 0 0) (nI g) 0 3 (by decide) (by decide)).1 ⟨g, Nat.zero_le _, hg3, rfl⟩) (Nat.le_of_ble_eq_true rfl) (by decide) (by decide) ?_
              refine zJ_iconst (v := 1) dX9_guess_12 (by decide) ?_
              refine zJ_cV2 dX9_guess_13 sX9_291 mfX9_right (c_Mo_right1 Δ (zsi w 100 0 0) M0 z0 1) (by first | rfl | assumption | exact M0.at (by decide) (by decide)) rfl (Nat.le_of_ble_eq_true rfl) (by decide) (by decide) ?_
              refine zJ_if_eq (tgt := 27) dX9_guess_16 (by decide) (fun h9 => False.elim (by revert h9; decide)) (fun _ => ?_)
              refine zJ_aload_n dX9_guess_19 rfl ?_
              refine zJ_iload_n dX9_guess_20 rfl ?_
              refine zJ_cV1 dX9_guess_21 sX9_339 mfX9_isPerson ((c_Mo_isPerson Δ (zsi w 100 0 0) M0 z0 (nI p) (U.1 0) hp1 hp8).1 ⟨p, hp, rfl⟩) (by first | rfl | assumption | exact M0.at (by decide) (by decide)) rfl (Nat.le_of_ble_eq_true rfl) (by decide) (by decide) ?_
              refine zJ_if_ne (tgt := 29) dX9_guess_24 (by decide) (fun _ => ?_) (fun h9 => False.elim (by revert h9; decide))
              refine zJ_iload_n dX9_guess_29 rfl ?_
              refine zJ_iconst (v := 0) dX9_guess_30 (by decide) ?_
              refine zJ_iconst (v := 3) dX9_guess_31 (by decide) ?_
              refine zJ_cS3 dX9_guess_32 sX9_336 mfX9_within ((c_Mo_within Δ (zsi w 100 0 0) (nI 2) 0 3 (by decide) (by decide)).1 ⟨2, by decide, by decide, rfl⟩) (Nat.le_of_ble_eq_true rfl) (by decide) (by decide) ?_
              refine zJ_if_eq (tgt := 66) dX9_guess_35 (by decide) (fun h9 => False.elim (by revert h9; decide)) (fun _ => ?_)
              refine zJ_iload_n dX9_guess_38 rfl ?_
              refine zJ_iconst (v := 1) dX9_guess_39 (by decide) ?_
              refine zJ_icmp_eq (tgt := 68) dX9_guess_40 (by decide) (fun h9 => absurd h9 h1i) (fun h40b => ?_)
              refine zJ_iload dX9_guess_43 rfl ?_
              refine zJ_iconst (v := 0) dX9_guess_45 (by decide) ?_
              refine zJ_iload_n dX9_guess_46 rfl ?_
              refine zJ_iconst (v := 2) dX9_guess_47 (by decide) ?_
              refine zJ_icmp_ne (tgt := 57) dX9_guess_48 (by decide) (fun h9 => absurd h9 (fun h => h rfl)) (fun h48b => ?_)
              refine zJ_sipush (v := 1000) dX9_guess_51 (by decide) ?_
              refine zJ_goto (tgt := 60) dX9_guess_54 (by decide) ?_
              refine zJ_cS3 dX9_guess_60 sX9_336 mfX9_within ((c_Mo_within Δ (zsi w 100 0 0) (nI nv) 0 1000 (by decide) (by decide)).1 ⟨nv, Nat.zero_le _, hnv, rfl⟩) (Nat.le_of_ble_eq_true rfl) (by decide) (by decide) ?_
              refine zJ_if_ne (tgt := 68) dX9_guess_63 (by decide) (fun _ => ?_) (fun h9 => False.elim (by revert h9; decide))
              refine zJ_aload_n dX9_guess_68 rfl ?_
              refine zJ_getr (j := 162) dX9_guess_69 fX9_104 (by first | rfl | assumption | exact M0.at (by decide) (by decide)) rfl (by first | rfl | assumption | exact M0.rf (by decide) rfl) ?_
              refine zJ_bipush (v := 8) dX9_guess_72 (by decide) ?_
              refine zJ_iload_n dX9_guess_74 rfl ?_
              refine zJ_imul dX9_guess_75 ?_
              refine zJ_iload_n dX9_guess_76 rfl ?_
              refine zJ_iadd dX9_guess_77 ?_
              refine zJ_iload_n dX9_guess_78 rfl ?_
              refine zJ_iastN (i := (g * 8 + p)) dX9_guess_79 (by first | rfl | assumption | exact M0.at (by decide) (by decide)) (na_8 _ _) (by omega) (by decide) ?_
              refine zJ_aload_n dX9_guess_80 rfl ?_
              refine zJ_getr (j := 163) dX9_guess_81 fX9_107 (by first | rfl | assumption | exact M0.at (by decide) (by decide)) rfl (by first | rfl | assumption | exact M0.rf (by decide) rfl) ?_
              refine zJ_bipush (v := 8) dX9_guess_84 (by decide) ?_
              refine zJ_iload_n dX9_guess_86 rfl ?_
              refine zJ_imul dX9_guess_87 ?_
              refine zJ_iload_n dX9_guess_88 rfl ?_
              refine zJ_iadd dX9_guess_89 ?_
              refine zJ_iload_n dX9_guess_90 rfl ?_
              refine zJ_iconst (v := 1) dX9_guess_91 (by decide) ?_
              refine zJ_icmp_ne (tgt := 99) dX9_guess_92 (by decide) (fun h92b => ?_) (fun h9 => absurd h9 h1i)
              refine zJ_iload dX9_guess_99 rfl ?_
              refine zJ_iastN (i := (g * 8 + p)) dX9_guess_101 (by first | rfl | assumption | exact M0.at (by decide) (by decide)) (na_8 _ _) (by omega) (by decide) ?_
              refine zJ_iconst (v := 1) dX9_guess_102 (by decide) ?_
              exact zJ_zret dX9_guess_103 rfl rfl (by decide) (by decide) (hQ _ _ (Or.inr ⟨g, p, hg4, rfl, hp, rfl, Or.inr ⟨hgo, rfl, by rw [if_neg h1i]⟩⟩))
            · have hno : ¬ zgok (nI 2) n := fun ⟨sv2, h1, h2, h3⟩ => by
                obtain rfl : 2 = sv2 := (nI_eq (a := 2) (by decide) (by omega)).mp h2
                obtain ⟨nv, a1, a2⟩ := h3 hs1
                exact hn ⟨nv, Nat.zero_le _, by simpa only [if_true] using a1, a2⟩
              refine zJ_aload_n dX9_guess_0 rfl ?_
              refine zJ_iconst (v := 0) dX9_guess_1 (by decide) ?_
              refine zJ_puti dX9_guess_2 fX9_170 (fun q h => by cases h; rfl) (by first | rfl | assumption | exact M0.at (by decide) (by decide)) rfl rfl rfl ?_
              refine zJ_aload_n dX9_guess_5 rfl ?_
              refine zJ_iload_n dX9_guess_6 rfl ?_
              refine zJ_iconst (v := 0) dX9_guess_7 (by decide) ?_
              refine zJ_iconst (v := 3) dX9_guess_8 (by decide) ?_
              refine zJ_cS3 dX9_guess_9 sX9_336 mfX9_within ((c_Mo_within Δ (zsi w 100 0 0) (nI g) 0 3 (by decide) (by decide)).1 ⟨g, Nat.zero_le _, hg3, rfl⟩) (Nat.le_of_ble_eq_true rfl) (by decide) (by decide) ?_
              refine zJ_iconst (v := 1) dX9_guess_12 (by decide) ?_
              refine zJ_cV2 dX9_guess_13 sX9_291 mfX9_right (c_Mo_right1 Δ (zsi w 100 0 0) M0 z0 1) (by first | rfl | assumption | exact M0.at (by decide) (by decide)) rfl (Nat.le_of_ble_eq_true rfl) (by decide) (by decide) ?_
              refine zJ_if_eq (tgt := 27) dX9_guess_16 (by decide) (fun h9 => False.elim (by revert h9; decide)) (fun _ => ?_)
              refine zJ_aload_n dX9_guess_19 rfl ?_
              refine zJ_iload_n dX9_guess_20 rfl ?_
              refine zJ_cV1 dX9_guess_21 sX9_339 mfX9_isPerson ((c_Mo_isPerson Δ (zsi w 100 0 0) M0 z0 (nI p) (U.1 0) hp1 hp8).1 ⟨p, hp, rfl⟩) (by first | rfl | assumption | exact M0.at (by decide) (by decide)) rfl (Nat.le_of_ble_eq_true rfl) (by decide) (by decide) ?_
              refine zJ_if_ne (tgt := 29) dX9_guess_24 (by decide) (fun _ => ?_) (fun h9 => False.elim (by revert h9; decide))
              refine zJ_iload_n dX9_guess_29 rfl ?_
              refine zJ_iconst (v := 0) dX9_guess_30 (by decide) ?_
              refine zJ_iconst (v := 3) dX9_guess_31 (by decide) ?_
              refine zJ_cS3 dX9_guess_32 sX9_336 mfX9_within ((c_Mo_within Δ (zsi w 100 0 0) (nI 2) 0 3 (by decide) (by decide)).1 ⟨2, by decide, by decide, rfl⟩) (Nat.le_of_ble_eq_true rfl) (by decide) (by decide) ?_
              refine zJ_if_eq (tgt := 66) dX9_guess_35 (by decide) (fun h9 => False.elim (by revert h9; decide)) (fun _ => ?_)
              refine zJ_iload_n dX9_guess_38 rfl ?_
              refine zJ_iconst (v := 1) dX9_guess_39 (by decide) ?_
              refine zJ_icmp_eq (tgt := 68) dX9_guess_40 (by decide) (fun h9 => absurd h9 h1i) (fun h40c => ?_)
              refine zJ_iload dX9_guess_43 rfl ?_
              refine zJ_iconst (v := 0) dX9_guess_45 (by decide) ?_
              refine zJ_iload_n dX9_guess_46 rfl ?_
              refine zJ_iconst (v := 2) dX9_guess_47 (by decide) ?_
              refine zJ_icmp_ne (tgt := 57) dX9_guess_48 (by decide) (fun h9 => absurd h9 (fun h => h rfl)) (fun h48c => ?_)
              refine zJ_sipush (v := 1000) dX9_guess_51 (by decide) ?_
              refine zJ_goto (tgt := 60) dX9_guess_54 (by decide) ?_
              refine zJ_cS3 dX9_guess_60 sX9_336 mfX9_within ((c_Mo_within Δ (zsi w 100 0 0) n 0 1000 (by decide) (by decide)).2 hn) (Nat.le_of_ble_eq_true rfl) (by decide) (by decide) ?_
              refine zJ_if_ne (tgt := 68) dX9_guess_63 (by decide) (fun h9 => False.elim (by revert h9; decide)) (fun _ => ?_)
              refine zJ_iconst (v := 0) dX9_guess_66 (by decide) ?_
              exact zJ_zret dX9_guess_67 rfl rfl (by decide) (by decide) (hQ _ _ (Or.inr ⟨g, p, hg4, rfl, hp, rfl, Or.inl ⟨hno, rfl, rfl⟩⟩))
          · skip
            by_cases hn : ∃ nv, 0 ≤ nv ∧ nv ≤ 9999 ∧ n = nI nv
            · obtain ⟨nv, -, hnv, rfl⟩ := hn
              have hgo : zgok (nI sv) (nI nv) := ⟨sv, hsv, rfl, fun _ => ⟨nv, by simp only [hs2, if_false]; exact hnv, rfl⟩⟩
              refine zJ_aload_n dX9_guess_0 rfl ?_
              refine zJ_iconst (v := 0) dX9_guess_1 (by decide) ?_
              refine zJ_puti dX9_guess_2 fX9_170 (fun q h => by cases h; rfl) (by first | rfl | assumption | exact M0.at (by decide) (by decide)) rfl rfl rfl ?_
              refine zJ_aload_n dX9_guess_5 rfl ?_
              refine zJ_iload_n dX9_guess_6 rfl ?_
              refine zJ_iconst (v := 0) dX9_guess_7 (by decide) ?_
              refine zJ_iconst (v := 3) dX9_guess_8 (by decide) ?_
              refine zJ_cS3 dX9_guess_9 sX9_336 mfX9_within ((c_Mo_within Δ (zsi w 100 0 0) (nI g) 0 3 (by decide) (by decide)).1 ⟨g, Nat.zero_le _, hg3, rfl⟩) (Nat.le_of_ble_eq_true rfl) (by decide) (by decide) ?_
              refine zJ_iconst (v := 1) dX9_guess_12 (by decide) ?_
              refine zJ_cV2 dX9_guess_13 sX9_291 mfX9_right (c_Mo_right1 Δ (zsi w 100 0 0) M0 z0 1) (by first | rfl | assumption | exact M0.at (by decide) (by decide)) rfl (Nat.le_of_ble_eq_true rfl) (by decide) (by decide) ?_
              refine zJ_if_eq (tgt := 27) dX9_guess_16 (by decide) (fun h9 => False.elim (by revert h9; decide)) (fun _ => ?_)
              refine zJ_aload_n dX9_guess_19 rfl ?_
              refine zJ_iload_n dX9_guess_20 rfl ?_
              refine zJ_cV1 dX9_guess_21 sX9_339 mfX9_isPerson ((c_Mo_isPerson Δ (zsi w 100 0 0) M0 z0 (nI p) (U.1 0) hp1 hp8).1 ⟨p, hp, rfl⟩) (by first | rfl | assumption | exact M0.at (by decide) (by decide)) rfl (Nat.le_of_ble_eq_true rfl) (by decide) (by decide) ?_
              refine zJ_if_ne (tgt := 29) dX9_guess_24 (by decide) (fun _ => ?_) (fun h9 => False.elim (by revert h9; decide))
              refine zJ_iload_n dX9_guess_29 rfl ?_
              refine zJ_iconst (v := 0) dX9_guess_30 (by decide) ?_
              refine zJ_iconst (v := 3) dX9_guess_31 (by decide) ?_
              refine zJ_cS3 dX9_guess_32 sX9_336 mfX9_within ((c_Mo_within Δ (zsi w 100 0 0) (nI sv) 0 3 (by decide) (by decide)).1 ⟨sv, Nat.zero_le _, hsv, rfl⟩) (Nat.le_of_ble_eq_true rfl) (by decide) (by decide) ?_
              refine zJ_if_eq (tgt := 66) dX9_guess_35 (by decide) (fun h9 => False.elim (by revert h9; decide)) (fun _ => ?_)
              refine zJ_iload_n dX9_guess_38 rfl ?_
              refine zJ_iconst (v := 1) dX9_guess_39 (by decide) ?_
              refine zJ_icmp_eq (tgt := 68) dX9_guess_40 (by decide) (fun h9 => absurd h9 h1i) (fun h40b => ?_)
              refine zJ_iload dX9_guess_43 rfl ?_
              refine zJ_iconst (v := 0) dX9_guess_45 (by decide) ?_
              refine zJ_iload_n dX9_guess_46 rfl ?_
              refine zJ_iconst (v := 2) dX9_guess_47 (by decide) ?_
              refine zJ_icmp_ne (tgt := 57) dX9_guess_48 (by decide) (fun h48b => ?_) (fun h9 => absurd h9 (fun h => hs2 ((nI_eq (b := 2) (by omega) (by decide)).mp h)))
              refine zJ_sipush (v := 9999) dX9_guess_57 (by decide) ?_
              refine zJ_cS3 dX9_guess_60 sX9_336 mfX9_within ((c_Mo_within Δ (zsi w 100 0 0) (nI nv) 0 9999 (by decide) (by decide)).1 ⟨nv, Nat.zero_le _, hnv, rfl⟩) (Nat.le_of_ble_eq_true rfl) (by decide) (by decide) ?_
              refine zJ_if_ne (tgt := 68) dX9_guess_63 (by decide) (fun _ => ?_) (fun h9 => False.elim (by revert h9; decide))
              refine zJ_aload_n dX9_guess_68 rfl ?_
              refine zJ_getr (j := 162) dX9_guess_69 fX9_104 (by first | rfl | assumption | exact M0.at (by decide) (by decide)) rfl (by first | rfl | assumption | exact M0.rf (by decide) rfl) ?_
              refine zJ_bipush (v := 8) dX9_guess_72 (by decide) ?_
              refine zJ_iload_n dX9_guess_74 rfl ?_
              refine zJ_imul dX9_guess_75 ?_
              refine zJ_iload_n dX9_guess_76 rfl ?_
              refine zJ_iadd dX9_guess_77 ?_
              refine zJ_iload_n dX9_guess_78 rfl ?_
              refine zJ_iastN (i := (g * 8 + p)) dX9_guess_79 (by first | rfl | assumption | exact M0.at (by decide) (by decide)) (na_8 _ _) (by omega) (by decide) ?_
              refine zJ_aload_n dX9_guess_80 rfl ?_
              refine zJ_getr (j := 163) dX9_guess_81 fX9_107 (by first | rfl | assumption | exact M0.at (by decide) (by decide)) rfl (by first | rfl | assumption | exact M0.rf (by decide) rfl) ?_
              refine zJ_bipush (v := 8) dX9_guess_84 (by decide) ?_
              refine zJ_iload_n dX9_guess_86 rfl ?_
              refine zJ_imul dX9_guess_87 ?_
              refine zJ_iload_n dX9_guess_88 rfl ?_
              refine zJ_iadd dX9_guess_89 ?_
              refine zJ_iload_n dX9_guess_90 rfl ?_
              refine zJ_iconst (v := 1) dX9_guess_91 (by decide) ?_
              refine zJ_icmp_ne (tgt := 99) dX9_guess_92 (by decide) (fun h92b => ?_) (fun h9 => absurd h9 h1i)
              refine zJ_iload dX9_guess_99 rfl ?_
              refine zJ_iastN (i := (g * 8 + p)) dX9_guess_101 (by first | rfl | assumption | exact M0.at (by decide) (by decide)) (na_8 _ _) (by omega) (by decide) ?_
              refine zJ_iconst (v := 1) dX9_guess_102 (by decide) ?_
              exact zJ_zret dX9_guess_103 rfl rfl (by decide) (by decide) (hQ _ _ (Or.inr ⟨g, p, hg4, rfl, hp, rfl, Or.inr ⟨hgo, rfl, by rw [if_neg h1i]⟩⟩))
            · have hno : ¬ zgok (nI sv) n := fun ⟨sv2, h1, h2, h3⟩ => by
                obtain rfl : sv = sv2 := (nI_eq (by omega) (by omega)).mp h2
                obtain ⟨nv, a1, a2⟩ := h3 hs1
                exact hn ⟨nv, Nat.zero_le _, by simpa only [hs2, if_false] using a1, a2⟩
              refine zJ_aload_n dX9_guess_0 rfl ?_
              refine zJ_iconst (v := 0) dX9_guess_1 (by decide) ?_
              refine zJ_puti dX9_guess_2 fX9_170 (fun q h => by cases h; rfl) (by first | rfl | assumption | exact M0.at (by decide) (by decide)) rfl rfl rfl ?_
              refine zJ_aload_n dX9_guess_5 rfl ?_
              refine zJ_iload_n dX9_guess_6 rfl ?_
              refine zJ_iconst (v := 0) dX9_guess_7 (by decide) ?_
              refine zJ_iconst (v := 3) dX9_guess_8 (by decide) ?_
              refine zJ_cS3 dX9_guess_9 sX9_336 mfX9_within ((c_Mo_within Δ (zsi w 100 0 0) (nI g) 0 3 (by decide) (by decide)).1 ⟨g, Nat.zero_le _, hg3, rfl⟩) (Nat.le_of_ble_eq_true rfl) (by decide) (by decide) ?_
              refine zJ_iconst (v := 1) dX9_guess_12 (by decide) ?_
              refine zJ_cV2 dX9_guess_13 sX9_291 mfX9_right (c_Mo_right1 Δ (zsi w 100 0 0) M0 z0 1) (by first | rfl | assumption | exact M0.at (by decide) (by decide)) rfl (Nat.le_of_ble_eq_true rfl) (by decide) (by decide) ?_
              refine zJ_if_eq (tgt := 27) dX9_guess_16 (by decide) (fun h9 => False.elim (by revert h9; decide)) (fun _ => ?_)
              refine zJ_aload_n dX9_guess_19 rfl ?_
              refine zJ_iload_n dX9_guess_20 rfl ?_
              refine zJ_cV1 dX9_guess_21 sX9_339 mfX9_isPerson ((c_Mo_isPerson Δ (zsi w 100 0 0) M0 z0 (nI p) (U.1 0) hp1 hp8).1 ⟨p, hp, rfl⟩) (by first | rfl | assumption | exact M0.at (by decide) (by decide)) rfl (Nat.le_of_ble_eq_true rfl) (by decide) (by decide) ?_
              refine zJ_if_ne (tgt := 29) dX9_guess_24 (by decide) (fun _ => ?_) (fun h9 => False.elim (by revert h9; decide))
              refine zJ_iload_n dX9_guess_29 rfl ?_
              refine zJ_iconst (v := 0) dX9_guess_30 (by decide) ?_
              refine zJ_iconst (v := 3) dX9_guess_31 (by decide) ?_
              refine zJ_cS3 dX9_guess_32 sX9_336 mfX9_within ((c_Mo_within Δ (zsi w 100 0 0) (nI sv) 0 3 (by decide) (by decide)).1 ⟨sv, Nat.zero_le _, hsv, rfl⟩) (Nat.le_of_ble_eq_true rfl) (by decide) (by decide) ?_
              refine zJ_if_eq (tgt := 66) dX9_guess_35 (by decide) (fun h9 => False.elim (by revert h9; decide)) (fun _ => ?_)
              refine zJ_iload_n dX9_guess_38 rfl ?_
              refine zJ_iconst (v := 1) dX9_guess_39 (by decide) ?_
              refine zJ_icmp_eq (tgt := 68) dX9_guess_40 (by decide) (fun h9 => absurd h9 h1i) (fun h40c => ?_)
              refine zJ_iload dX9_guess_43 rfl ?_
              refine zJ_iconst (v := 0) dX9_guess_45 (by decide) ?_
              refine zJ_iload_n dX9_guess_46 rfl ?_
              refine zJ_iconst (v := 2) dX9_guess_47 (by decide) ?_
              refine zJ_icmp_ne (tgt := 57) dX9_guess_48 (by decide) (fun h48c => ?_) (fun h9 => absurd h9 (fun h => hs2 ((nI_eq (b := 2) (by omega) (by decide)).mp h)))
              refine zJ_sipush (v := 9999) dX9_guess_57 (by decide) ?_
              refine zJ_cS3 dX9_guess_60 sX9_336 mfX9_within ((c_Mo_within Δ (zsi w 100 0 0) n 0 9999 (by decide) (by decide)).2 hn) (Nat.le_of_ble_eq_true rfl) (by decide) (by decide) ?_
              refine zJ_if_ne (tgt := 68) dX9_guess_63 (by decide) (fun h9 => False.elim (by revert h9; decide)) (fun _ => ?_)
              refine zJ_iconst (v := 0) dX9_guess_66 (by decide) ?_
              exact zJ_zret dX9_guess_67 rfl rfl (by decide) (by decide) (hQ _ _ (Or.inr ⟨g, p, hg4, rfl, hp, rfl, Or.inl ⟨hno, rfl, rfl⟩⟩))
      · have hno : ¬ zgok s n := fun ⟨sv, h1, h2, _⟩ => hs ⟨sv, Nat.zero_le _, h1, h2⟩
        refine zJ_aload_n dX9_guess_0 rfl ?_
        refine zJ_iconst (v := 0) dX9_guess_1 (by decide) ?_
        refine zJ_puti dX9_guess_2 fX9_170 (fun q h => by cases h; rfl) (by first | rfl | assumption | exact M0.at (by decide) (by decide)) rfl rfl rfl ?_
        refine zJ_aload_n dX9_guess_5 rfl ?_
        refine zJ_iload_n dX9_guess_6 rfl ?_
        refine zJ_iconst (v := 0) dX9_guess_7 (by decide) ?_
        refine zJ_iconst (v := 3) dX9_guess_8 (by decide) ?_
        refine zJ_cS3 dX9_guess_9 sX9_336 mfX9_within ((c_Mo_within Δ (zsi w 100 0 0) (nI g) 0 3 (by decide) (by decide)).1 ⟨g, Nat.zero_le _, hg3, rfl⟩) (Nat.le_of_ble_eq_true rfl) (by decide) (by decide) ?_
        refine zJ_iconst (v := 1) dX9_guess_12 (by decide) ?_
        refine zJ_cV2 dX9_guess_13 sX9_291 mfX9_right (c_Mo_right1 Δ (zsi w 100 0 0) M0 z0 1) (by first | rfl | assumption | exact M0.at (by decide) (by decide)) rfl (Nat.le_of_ble_eq_true rfl) (by decide) (by decide) ?_
        refine zJ_if_eq (tgt := 27) dX9_guess_16 (by decide) (fun h9 => False.elim (by revert h9; decide)) (fun _ => ?_)
        refine zJ_aload_n dX9_guess_19 rfl ?_
        refine zJ_iload_n dX9_guess_20 rfl ?_
        refine zJ_cV1 dX9_guess_21 sX9_339 mfX9_isPerson ((c_Mo_isPerson Δ (zsi w 100 0 0) M0 z0 (nI p) (U.1 0) hp1 hp8).1 ⟨p, hp, rfl⟩) (by first | rfl | assumption | exact M0.at (by decide) (by decide)) rfl (Nat.le_of_ble_eq_true rfl) (by decide) (by decide) ?_
        refine zJ_if_ne (tgt := 29) dX9_guess_24 (by decide) (fun _ => ?_) (fun h9 => False.elim (by revert h9; decide))
        refine zJ_iload_n dX9_guess_29 rfl ?_
        refine zJ_iconst (v := 0) dX9_guess_30 (by decide) ?_
        refine zJ_iconst (v := 3) dX9_guess_31 (by decide) ?_
        refine zJ_cS3 dX9_guess_32 sX9_336 mfX9_within ((c_Mo_within Δ (zsi w 100 0 0) s 0 3 (by decide) (by decide)).2 hs) (Nat.le_of_ble_eq_true rfl) (by decide) (by decide) ?_
        refine zJ_if_eq (tgt := 66) dX9_guess_35 (by decide) (fun _ => ?_) (fun h9 => False.elim (by revert h9; decide))
        refine zJ_iconst (v := 0) dX9_guess_66 (by decide) ?_
        exact zJ_zret dX9_guess_67 rfl rfl (by decide) (by decide) (hQ _ _ (Or.inr ⟨g, p, hg4, rfl, hp, rfl, Or.inl ⟨hno, rfl, rfl⟩⟩))
    · skip
      refine zJ_aload_n dX9_guess_0 rfl ?_
      refine zJ_iconst (v := 0) dX9_guess_1 (by decide) ?_
      refine zJ_puti dX9_guess_2 fX9_170 (fun q h => by cases h; rfl) (by first | rfl | assumption | exact M0.at (by decide) (by decide)) rfl rfl rfl ?_
      refine zJ_aload_n dX9_guess_5 rfl ?_
      refine zJ_iload_n dX9_guess_6 rfl ?_
      refine zJ_iconst (v := 0) dX9_guess_7 (by decide) ?_
      refine zJ_iconst (v := 3) dX9_guess_8 (by decide) ?_
      refine zJ_cS3 dX9_guess_9 sX9_336 mfX9_within ((c_Mo_within Δ (zsi w 100 0 0) a 0 3 (by decide) (by decide)).1 hg) (Nat.le_of_ble_eq_true rfl) (by decide) (by decide) ?_
      refine zJ_iconst (v := 1) dX9_guess_12 (by decide) ?_
      refine zJ_cV2 dX9_guess_13 sX9_291 mfX9_right (c_Mo_right1 Δ (zsi w 100 0 0) M0 z0 1) (by first | rfl | assumption | exact M0.at (by decide) (by decide)) rfl (Nat.le_of_ble_eq_true rfl) (by decide) (by decide) ?_
      refine zJ_if_eq (tgt := 27) dX9_guess_16 (by decide) (fun h9 => False.elim (by revert h9; decide)) (fun _ => ?_)
      refine zJ_aload_n dX9_guess_19 rfl ?_
      refine zJ_iload_n dX9_guess_20 rfl ?_
      refine zJ_cV1 dX9_guess_21 sX9_339 mfX9_isPerson ((c_Mo_isPerson Δ (zsi w 100 0 0) M0 z0 b (U.1 0) hp1 hp8).2 hy) (by first | rfl | assumption | exact M0.at (by decide) (by decide)) rfl (Nat.le_of_ble_eq_true rfl) (by decide) (by decide) ?_
      refine zJ_if_ne (tgt := 29) dX9_guess_24 (by decide) (fun h9 => False.elim (by revert h9; decide)) (fun _ => ?_)
      refine zJ_iconst (v := 0) dX9_guess_27 (by decide) ?_
      exact zJ_zret dX9_guess_28 rfl rfl (by decide) (by decide) (hQ _ _ (Or.inl ⟨fun h => hy h.2, rfl⟩))
  · skip
    refine zJ_aload_n dX9_guess_0 rfl ?_
    refine zJ_iconst (v := 0) dX9_guess_1 (by decide) ?_
    refine zJ_puti dX9_guess_2 fX9_170 (fun q h => by cases h; rfl) (by first | rfl | assumption | exact M0.at (by decide) (by decide)) rfl rfl rfl ?_
    refine zJ_aload_n dX9_guess_5 rfl ?_
    refine zJ_iload_n dX9_guess_6 rfl ?_
    refine zJ_iconst (v := 0) dX9_guess_7 (by decide) ?_
    refine zJ_iconst (v := 3) dX9_guess_8 (by decide) ?_
    refine zJ_cS3 dX9_guess_9 sX9_336 mfX9_within ((c_Mo_within Δ (zsi w 100 0 0) a 0 3 (by decide) (by decide)).2 hg) (Nat.le_of_ble_eq_true rfl) (by decide) (by decide) ?_
    refine zJ_iconst (v := 1) dX9_guess_12 (by decide) ?_
    refine zJ_cV2 dX9_guess_13 sX9_291 mfX9_right (c_Mo_right0 Δ (zsi w 100 0 0) M0 z0 1 (by decide)) (by first | rfl | assumption | exact M0.at (by decide) (by decide)) rfl (Nat.le_of_ble_eq_true rfl) (by decide) (by decide) ?_
    refine zJ_if_eq (tgt := 27) dX9_guess_16 (by decide) (fun _ => ?_) (fun h9 => False.elim (by revert h9; decide))
    refine zJ_iconst (v := 0) dX9_guess_27 (by decide) ?_
    exact zJ_zret dX9_guess_28 rfl rfl (by decide) (by decide) (hQ _ _ (Or.inl ⟨fun h => hg (by obtain ⟨⟨g, h1, h2⟩, -⟩ := h; exact ⟨g, Nat.zero_le _, by omega, h2⟩), rfl⟩))
