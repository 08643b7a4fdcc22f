set_option maxRecDepth 100000 in
theorem c_Mo_goesTo (Δ : zD) (w : zW) (T : zTo) (K : List zKy) (hK : zMK w T K) (hT : zTok T) (x : Nat) (k : zKy) (hx : K[x]? = some k) (ot : Nat → Nat) (ho : zOt w ot) (t : Nat) (ht : t ≤ 100) (O : Nat → Bool) (hO : ∀ p, p < 8 → O p = decide (t < ot p)) (hB : zBm w T K) : zMd Δ 2 0 0 true yX9_goesTo mX9_goesTo [.ref 100, .int (nI x), .int (nI t)] w (some (.int (zoi (zgo T k O (w.2.1 178 0)).1))) (zsi w 178 0 (zgo T k O (w.2.1 178 0)).2) := by
  refine zMd.of mfX9_goesTo (Nat.le_of_ble_eq_true rfl) (fun QR hQ => ?_)
  have hK0 := hK
  obtain ⟨hA, hN, hall, hch⟩ := hK
  have hA0 := hA
  obtain ⟨hM, m1, m3, m4, m5, m6, m7, m46, m9, m47, mso, mnu, mwt⟩ := hA
  have hT0 := hT
  obtain ⟨hp0, hp5, hp6, hp7, hp8, hp9, hp10, hp11, hp12, hp13, hpp, hpw⟩ := hT
  have hxK : x < K.length := (List.getElem?_eq_some_iff.mp hx).1
  have hKR := hN.2.2.1
  obtain ⟨hk, hkp⟩ := hN.2.2.2 k (List.mem_iff_getElem?.mpr ⟨x, hx⟩)
  obtain ⟨y1, y2, y3, y4⟩ := hN.1 x k hx
  have hk1 := hk.1
  have hk2 := hk.2.1
  have hso := (hpp k.1).1
  have hwb : zwS T k ≤ 8 * 99 := fb_sm_bound (fun y hy => by
    try simp only
    split
    · exact (hpw k.1 y hk1 (by omega)).1
    · omega)
  have hst : zgo T k O (w.2.1 178 0) = (none, w.2.1 178 0) → QR (some (.int (-1))) w := fun h => by
    have h9 := hQ
    rw [h] at h9
    rw [← zsi_self w 178 0]
    exact h9
  by_cases hmb : zmb T k = 0
  · have hQ1 := hst (by simp only [zgo, hmb, if_true])
    refine zJ_aload_n dX9_goesTo_0 rfl ?_
    refine zJ_getr (j := 139) dX9_goesTo_1 fX9_50 (by first | rfl | assumption | exact hM.at (by decide) (by decide)) rfl (by first | rfl | assumption | exact hM.rf (by decide) rfl) ?_
    refine zJ_iload_n dX9_goesTo_4 rfl ?_
    refine zJ_ialdN (i := x) (v := (nI k.1)) dX9_goesTo_5 (by first | rfl | assumption | exact hM.at (by decide) (by decide)) rfl (by omega) (by decide) y1 ?_
    refine zJ_istore_n (ls2 := fun x6 => [(3, .int x6), (0, .ref 100), (1, .int (nI x)), (2, .int (nI t))]) dX9_goesTo_6 (by decide) (fun _ => rfl) (fun x6 ex6 => ?_)
    obtain rfl : x6 = (nI k.1) := ex6
    refine zJ_aload_n dX9_goesTo_7 rfl ?_
    refine zJ_iload_n dX9_goesTo_8 rfl ?_
    refine zJ_cV1 dX9_goesTo_9 sX9_386 mfX9_weightsOf (c_Mo_weightsOf Δ w T K hK0 hT0 x k hx) (by first | rfl | assumption | exact hM.at (by decide) (by decide)) rfl (Nat.le_of_ble_eq_true rfl) (by decide) (by decide) ?_
    rw [zwS_0 hmb]
    refine zJ_if_ne (tgt := 17) dX9_goesTo_12 (by decide) (fun h9 => False.elim (by revert h9; decide)) (fun _ => ?_)
    refine zJ_iconst (v := (-1)) dX9_goesTo_15 (by decide) ?_
    exact zJ_iret dX9_goesTo_16 rfl (by decide) (by decide) hQ1
  · have hwp := zwS_pos hmb
    have hne : ¬ nI (zwS T k) = 0 := fun h => absurd ((nI_eq (b := 0) (by omega) (by decide)).mp h) (by omega)
    rcases (by omega : T.2.1 k.1 = 0 ∨ T.2.1 k.1 = 1 ∨ T.2.1 k.1 = 2 ∨ T.2.1 k.1 = 3) with hs | hs | hs | hs
    · by_cases hop : T.2.2.1 k.1 ≤ zfl T k.2.1
      · have hQ1 := hst (by simp [zgo, zsh, hmb, hs, hop])
        refine zJ_aload_n dX9_goesTo_0 rfl ?_
        refine zJ_getr (j := 139) dX9_goesTo_1 fX9_50 (by first | rfl | assumption | exact hM.at (by decide) (by decide)) rfl (by first | rfl | assumption | exact hM.rf (by decide) rfl) ?_
        refine zJ_iload_n dX9_goesTo_4 rfl ?_
        refine zJ_ialdN (i := x) (v := (nI k.1)) dX9_goesTo_5 (by first | rfl | assumption | exact hM.at (by decide) (by decide)) rfl (by omega) (by decide) y1 ?_
        refine zJ_istore_n (ls2 := fun x6 => [(3, .int x6), (0, .ref 100), (1, .int (nI x)), (2, .int (nI t))]) dX9_goesTo_6 (by decide) (fun _ => rfl) (fun x6 ex6 => ?_)
        obtain rfl : x6 = (nI k.1) := ex6
        refine zJ_aload_n dX9_goesTo_7 rfl ?_
        refine zJ_iload_n dX9_goesTo_8 rfl ?_
        refine zJ_cV1 dX9_goesTo_9 sX9_386 mfX9_weightsOf (c_Mo_weightsOf Δ w T K hK0 hT0 x k hx) (by first | rfl | assumption | exact hM.at (by decide) (by decide)) rfl (Nat.le_of_ble_eq_true rfl) (by decide) (by decide) ?_
        refine zJ_if_ne (tgt := 17) dX9_goesTo_12 (by decide) (fun h12 => ?_) (fun h9 => absurd h9 hne)
        refine zJ_aload_n dX9_goesTo_17 rfl ?_
        refine zJ_getr (j := 148) dX9_goesTo_18 fX9_70 (by first | rfl | assumption | exact hM.at (by decide) (by decide)) rfl (by first | rfl | assumption | exact hM.rf (by decide) rfl) ?_
        refine zJ_iload_n dX9_goesTo_21 rfl ?_
        refine zJ_ialdN (i := k.1) (v := (nI (T.2.1 k.1))) dX9_goesTo_22 (by first | rfl | assumption | exact hM.at (by decide) (by decide)) rfl (by omega) (by decide) (mso k.1 hkp) ?_
        rw [hs]
        refine zJ_iconst (v := 2) dX9_goesTo_23 (by decide) ?_
        refine zJ_icmp_ne (tgt := 45) dX9_goesTo_24 (by decide) (fun _ => ?_) (fun h9 => False.elim (by revert h9; decide))
        refine zJ_aload_n dX9_goesTo_45 rfl ?_
        refine zJ_getr (j := 148) dX9_goesTo_46 fX9_70 (by first | rfl | assumption | exact hM.at (by decide) (by decide)) rfl (by first | rfl | assumption | exact hM.rf (by decide) rfl) ?_
        refine zJ_iload_n dX9_goesTo_49 rfl ?_
        refine zJ_ialdN (i := k.1) (v := (nI (T.2.1 k.1))) dX9_goesTo_50 (by first | rfl | assumption | exact hM.at (by decide) (by decide)) rfl (by omega) (by decide) (mso k.1 hkp) ?_
        rw [hs]
        refine zJ_if_ne (tgt := 70) dX9_goesTo_51 (by decide) (fun h9 => False.elim (by revert h9; decide)) (fun _ => ?_)
        refine zJ_aload_n dX9_goesTo_54 rfl ?_
        refine zJ_iload_n dX9_goesTo_55 rfl ?_
        refine zJ_aload_n dX9_goesTo_56 rfl ?_
        refine zJ_getr (j := 140) dX9_goesTo_57 fX9_53 (by first | rfl | assumption | exact hM.at (by decide) (by decide)) rfl (by first | rfl | assumption | exact hM.rf (by decide) rfl) ?_
        refine zJ_iload_n dX9_goesTo_60 rfl ?_
        refine zJ_ialdN (i := x) (v := (nI k.2.1)) dX9_goesTo_61 (by first | rfl | assumption | exact hM.at (by decide) (by decide)) rfl (by omega) (by decide) y2 ?_
        refine zJ_cV2 dX9_goesTo_62 sX9_396 mfX9_isOpenedAt (c_Mo_isOpenedAt Δ w T hA0 hT0 k.1 k.2.1 hkp ⟨hk2.1, by omega⟩) (by first | rfl | assumption | exact hM.at (by decide) (by decide)) rfl (Nat.le_of_ble_eq_true rfl) (by decide) (by decide) ?_
        rw [if_pos hop]
        refine zJ_if_eq (tgt := 70) dX9_goesTo_65 (by decide) (fun h9 => False.elim (by revert h9; decide)) (fun _ => ?_)
        refine zJ_iconst (v := (-1)) dX9_goesTo_68 (by decide) ?_
        exact zJ_iret dX9_goesTo_69 rfl (by decide) (by decide) hQ1
      · rw [show zgo T k O (w.2.1 178 0) = zgp T k O (w.2.1 178 0) by simp [zgo, zgt, zsh, hmb, hs, hop]] at hQ
        refine zJ_aload_n dX9_goesTo_0 rfl ?_
        refine zJ_getr (j := 139) dX9_goesTo_1 fX9_50 (by first | rfl | assumption | exact hM.at (by decide) (by decide)) rfl (by first | rfl | assumption | exact hM.rf (by decide) rfl) ?_
        refine zJ_iload_n dX9_goesTo_4 rfl ?_
        refine zJ_ialdN (i := x) (v := (nI k.1)) dX9_goesTo_5 (by first | rfl | assumption | exact hM.at (by decide) (by decide)) rfl (by omega) (by decide) y1 ?_
        refine zJ_istore_n (ls2 := fun x6 => [(3, .int x6), (0, .ref 100), (1, .int (nI x)), (2, .int (nI t))]) dX9_goesTo_6 (by decide) (fun _ => rfl) (fun x6 ex6 => ?_)
        obtain rfl : x6 = (nI k.1) := ex6
        refine zJ_aload_n dX9_goesTo_7 rfl ?_
        refine zJ_iload_n dX9_goesTo_8 rfl ?_
        refine zJ_cV1 dX9_goesTo_9 sX9_386 mfX9_weightsOf (c_Mo_weightsOf Δ w T K hK0 hT0 x k hx) (by first | rfl | assumption | exact hM.at (by decide) (by decide)) rfl (Nat.le_of_ble_eq_true rfl) (by decide) (by decide) ?_
        refine zJ_if_ne (tgt := 17) dX9_goesTo_12 (by decide) (fun h12 => ?_) (fun h9 => absurd h9 hne)
        refine zJ_aload_n dX9_goesTo_17 rfl ?_
        refine zJ_getr (j := 148) dX9_goesTo_18 fX9_70 (by first | rfl | assumption | exact hM.at (by decide) (by decide)) rfl (by first | rfl | assumption | exact hM.rf (by decide) rfl) ?_
        refine zJ_iload_n dX9_goesTo_21 rfl ?_
        refine zJ_ialdN (i := k.1) (v := (nI (T.2.1 k.1))) dX9_goesTo_22 (by first | rfl | assumption | exact hM.at (by decide) (by decide)) rfl (by omega) (by decide) (mso k.1 hkp) ?_
        rw [hs]
        refine zJ_iconst (v := 2) dX9_goesTo_23 (by decide) ?_
        refine zJ_icmp_ne (tgt := 45) dX9_goesTo_24 (by decide) (fun _ => ?_) (fun h9 => False.elim (by revert h9; decide))
        refine zJ_aload_n dX9_goesTo_45 rfl ?_
        refine zJ_getr (j := 148) dX9_goesTo_46 fX9_70 (by first | rfl | assumption | exact hM.at (by decide) (by decide)) rfl (by first | rfl | assumption | exact hM.rf (by decide) rfl) ?_
        refine zJ_iload_n dX9_goesTo_49 rfl ?_
        refine zJ_ialdN (i := k.1) (v := (nI (T.2.1 k.1))) dX9_goesTo_50 (by first | rfl | assumption | exact hM.at (by decide) (by decide)) rfl (by omega) (by decide) (mso k.1 hkp) ?_
        rw [hs]
        refine zJ_if_ne (tgt := 70) dX9_goesTo_51 (by decide) (fun h9 => False.elim (by revert h9; decide)) (fun _ => ?_)
        refine zJ_aload_n dX9_goesTo_54 rfl ?_
        refine zJ_iload_n dX9_goesTo_55 rfl ?_
        refine zJ_aload_n dX9_goesTo_56 rfl ?_
        refine zJ_getr (j := 140) dX9_goesTo_57 fX9_53 (by first | rfl | assumption | exact hM.at (by decide) (by decide)) rfl (by first | rfl | assumption | exact hM.rf (by decide) rfl) ?_
        refine zJ_iload_n dX9_goesTo_60 rfl ?_
        refine zJ_ialdN (i := x) (v := (nI k.2.1)) dX9_goesTo_61 (by first | rfl | assumption | exact hM.at (by decide) (by decide)) rfl (by omega) (by decide) y2 ?_
        refine zJ_cV2 dX9_goesTo_62 sX9_396 mfX9_isOpenedAt (c_Mo_isOpenedAt Δ w T hA0 hT0 k.1 k.2.1 hkp ⟨hk2.1, by omega⟩) (by first | rfl | assumption | exact hM.at (by decide) (by decide)) rfl (Nat.le_of_ble_eq_true rfl) (by decide) (by decide) ?_
        rw [if_neg hop]
        refine zJ_if_eq (tgt := 70) dX9_goesTo_65 (by decide) (fun _ => ?_) (fun h9 => False.elim (by revert h9; decide))
        refine zJ_aload_n dX9_goesTo_70 rfl ?_
        refine zJ_getr (j := 148) dX9_goesTo_71 fX9_70 (by first | rfl | assumption | exact hM.at (by decide) (by decide)) rfl (by first | rfl | assumption | exact hM.rf (by decide) rfl) ?_
        refine zJ_iload_n dX9_goesTo_74 rfl ?_
        refine zJ_ialdN (i := k.1) (v := (nI (T.2.1 k.1))) dX9_goesTo_75 (by first | rfl | assumption | exact hM.at (by decide) (by decide)) rfl (by omega) (by decide) (mso k.1 hkp) ?_
        rw [hs]
        refine zJ_iconst (v := 3) dX9_goesTo_76 (by decide) ?_
        refine zJ_icmp_ne (tgt := 115) dX9_goesTo_77 (by decide) (fun _ => ?_) (fun h9 => False.elim (by revert h9; decide))
        exact zMo_goT Δ w T K hK0 hT0 x k hx ot ho t ht O hO hQ
    · rw [show zgo T k O (w.2.1 178 0) = zgp T k O (w.2.1 178 0) by simp [zgo, zgt, zsh, hmb, hs]] at hQ
      refine zJ_aload_n dX9_goesTo_0 rfl ?_
      refine zJ_getr (j := 139) dX9_goesTo_1 fX9_50 (by first | rfl | assumption | exact hM.at (by decide) (by decide)) rfl (by first | rfl | assumption | exact hM.rf (by decide) rfl) ?_
      refine zJ_iload_n dX9_goesTo_4 rfl ?_
      refine zJ_ialdN (i := x) (v := (nI k.1)) dX9_goesTo_5 (by first | rfl | assumption | exact hM.at (by decide) (by decide)) rfl (by omega) (by decide) y1 ?_
      refine zJ_istore_n (ls2 := fun x6 => [(3, .int x6), (0, .ref 100), (1, .int (nI x)), (2, .int (nI t))]) dX9_goesTo_6 (by decide) (fun _ => rfl) (fun x6 ex6 => ?_)
      obtain rfl : x6 = (nI k.1) := ex6
      refine zJ_aload_n dX9_goesTo_7 rfl ?_
      refine zJ_iload_n dX9_goesTo_8 rfl ?_
      refine zJ_cV1 dX9_goesTo_9 sX9_386 mfX9_weightsOf (c_Mo_weightsOf Δ w T K hK0 hT0 x k hx) (by first | rfl | assumption | exact hM.at (by decide) (by decide)) rfl (Nat.le_of_ble_eq_true rfl) (by decide) (by decide) ?_
      refine zJ_if_ne (tgt := 17) dX9_goesTo_12 (by decide) (fun h12 => ?_) (fun h9 => absurd h9 hne)
      refine zJ_aload_n dX9_goesTo_17 rfl ?_
      refine zJ_getr (j := 148) dX9_goesTo_18 fX9_70 (by first | rfl | assumption | exact hM.at (by decide) (by decide)) rfl (by first | rfl | assumption | exact hM.rf (by decide) rfl) ?_
      refine zJ_iload_n dX9_goesTo_21 rfl ?_
      refine zJ_ialdN (i := k.1) (v := (nI (T.2.1 k.1))) dX9_goesTo_22 (by first | rfl | assumption | exact hM.at (by decide) (by decide)) rfl (by omega) (by decide) (mso k.1 hkp) ?_
      rw [hs]
      refine zJ_iconst (v := 2) dX9_goesTo_23 (by decide) ?_
      refine zJ_icmp_ne (tgt := 45) dX9_goesTo_24 (by decide) (fun _ => ?_) (fun h9 => False.elim (by revert h9; decide))
      refine zJ_aload_n dX9_goesTo_45 rfl ?_
      refine zJ_getr (j := 148) dX9_goesTo_46 fX9_70 (by first | rfl | assumption | exact hM.at (by decide) (by decide)) rfl (by first | rfl | assumption | exact hM.rf (by decide) rfl) ?_
      refine zJ_iload_n dX9_goesTo_49 rfl ?_
      refine zJ_ialdN (i := k.1) (v := (nI (T.2.1 k.1))) dX9_goesTo_50 (by first | rfl | assumption | exact hM.at (by decide) (by decide)) rfl (by omega) (by decide) (mso k.1 hkp) ?_
      rw [hs]
      refine zJ_if_ne (tgt := 70) dX9_goesTo_51 (by decide) (fun _ => ?_) (fun h9 => False.elim (by revert h9; decide))
      refine zJ_aload_n dX9_goesTo_70 rfl ?_
      refine zJ_getr (j := 148) dX9_goesTo_71 fX9_70 (by first | rfl | assumption | exact hM.at (by decide) (by decide)) rfl (by first | rfl | assumption | exact hM.rf (by decide) rfl) ?_
      refine zJ_iload_n dX9_goesTo_74 rfl ?_
      refine zJ_ialdN (i := k.1) (v := (nI (T.2.1 k.1))) dX9_goesTo_75 (by first | rfl | assumption | exact hM.at (by decide) (by decide)) rfl (by omega) (by decide) (mso k.1 hkp) ?_
      rw [hs]
      refine zJ_iconst (v := 3) dX9_goesTo_76 (by decide) ?_
      refine zJ_icmp_ne (tgt := 115) dX9_goesTo_77 (by decide) (fun _ => ?_) (fun h9 => False.elim (by revert h9; decide))
      exact zMo_goT Δ w T K hK0 hT0 x k hx ot ho t ht O hO hQ
    · have hnu := (hpp k.1).2.2.1 hs
      have hdl : zd15 (zdr (w.2.1 178 0)) % 1000 < 1000 := Nat.mod_lt _ (by decide)
      have M1 : zMs (zsi w 178 0 (zdr (w.2.1 178 0))) := hM
      have f1 : zFM [78] w (zsi w 178 0 (zdr (w.2.1 178 0))) := zFM.i (by decide)
      have hK1 : zMK (zsi w 178 0 (zdr (w.2.1 178 0))) T K := hK0.fm f1 (by decide)
      have nso : (zsi w 178 0 (zdr (w.2.1 178 0))).2.1 148 k.1 = nI (T.2.1 k.1) := hK1.1.2.2.2.2.2.2.2.2.2.2.1 k.1 hkp
      have nnu : (zsi w 178 0 (zdr (w.2.1 178 0))).2.1 149 k.1 = nI (T.2.2.1 k.1) := hK1.1.2.2.2.2.2.2.2.2.2.2.2.1 k.1 hkp
      by_cases hlk : zd15 (zdr (w.2.1 178 0)) % 1000 < T.2.2.1 k.1
      · rw [show zgo T k O (w.2.1 178 0) = (none, zdr (w.2.1 178 0)) by simp [zgo, hmb, hs, hlk]] at hQ
        refine zJ_aload_n dX9_goesTo_0 rfl ?_
        refine zJ_getr (j := 139) dX9_goesTo_1 fX9_50 (by first | rfl | assumption | exact hM.at (by decide) (by decide)) rfl (by first | rfl | assumption | exact hM.rf (by decide) rfl) ?_
        refine zJ_iload_n dX9_goesTo_4 rfl ?_
        refine zJ_ialdN (i := x) (v := (nI k.1)) dX9_goesTo_5 (by first | rfl | assumption | exact hM.at (by decide) (by decide)) rfl (by omega) (by decide) y1 ?_
        refine zJ_istore_n (ls2 := fun x6 => [(3, .int x6), (0, .ref 100), (1, .int (nI x)), (2, .int (nI t))]) dX9_goesTo_6 (by decide) (fun _ => rfl) (fun x6 ex6 => ?_)
        obtain rfl : x6 = (nI k.1) := ex6
        refine zJ_aload_n dX9_goesTo_7 rfl ?_
        refine zJ_iload_n dX9_goesTo_8 rfl ?_
        refine zJ_cV1 dX9_goesTo_9 sX9_386 mfX9_weightsOf (c_Mo_weightsOf Δ w T K hK0 hT0 x k hx) (by first | rfl | assumption | exact hM.at (by decide) (by decide)) rfl (Nat.le_of_ble_eq_true rfl) (by decide) (by decide) ?_
        refine zJ_if_ne (tgt := 17) dX9_goesTo_12 (by decide) (fun h12 => ?_) (fun h9 => absurd h9 hne)
        refine zJ_aload_n dX9_goesTo_17 rfl ?_
        refine zJ_getr (j := 148) dX9_goesTo_18 fX9_70 (by first | rfl | assumption | exact hM.at (by decide) (by decide)) rfl (by first | rfl | assumption | exact hM.rf (by decide) rfl) ?_
        refine zJ_iload_n dX9_goesTo_21 rfl ?_
        refine zJ_ialdN (i := k.1) (v := (nI (T.2.1 k.1))) dX9_goesTo_22 (by first | rfl | assumption | exact hM.at (by decide) (by decide)) rfl (by omega) (by decide) (mso k.1 hkp) ?_
        rw [hs]
        refine zJ_iconst (v := 2) dX9_goesTo_23 (by decide) ?_
        refine zJ_icmp_ne (tgt := 45) dX9_goesTo_24 (by decide) (fun h9 => False.elim (by revert h9; decide)) (fun _ => ?_)
        refine zJ_aload_n dX9_goesTo_27 rfl ?_
        refine zJ_sipush (v := 1000) dX9_goesTo_28 (by decide) ?_
        refine zJ_cV1 dX9_goesTo_31 sX9_468 mfX9_draw (c_Mo_draw Δ w hM 1000 (by decide) (by decide)) (by first | rfl | assumption | exact hM.at (by decide) (by decide)) rfl (Nat.le_of_ble_eq_true rfl) (by decide) (by decide) ?_
        refine zJ_aload_n dX9_goesTo_34 rfl ?_
        refine zJ_getr (j := 149) dX9_goesTo_35 fX9_73 (by first | rfl | assumption | exact M1.at (by decide) (by decide)) rfl (by first | rfl | assumption | exact M1.rf (by decide) rfl) ?_
        refine zJ_iload_n dX9_goesTo_38 rfl ?_
        refine zJ_ialdN (i := k.1) (v := (nI (T.2.2.1 k.1))) dX9_goesTo_39 (by first | rfl | assumption | exact M1.at (by decide) (by decide)) rfl (by omega) (by decide) nnu ?_
        refine zJ_icmp_ge (tgt := 45) dX9_goesTo_40 (by decide) (fun h9 => absurd h9 (fun h => absurd ((nI_leI (by omega) (by omega)).mp h) (by omega))) (fun h40d => ?_)
        refine zJ_iconst (v := (-1)) dX9_goesTo_43 (by decide) ?_
        exact zJ_iret dX9_goesTo_44 rfl (by decide) (by decide) hQ
      · rw [show zgo T k O (w.2.1 178 0) = zgp T k O (zdr (w.2.1 178 0)) by simp [zgo, zgt, hmb, hs, hlk]] at hQ
        refine zJ_aload_n dX9_goesTo_0 rfl ?_
        refine zJ_getr (j := 139) dX9_goesTo_1 fX9_50 (by first | rfl | assumption | exact hM.at (by decide) (by decide)) rfl (by first | rfl | assumption | exact hM.rf (by decide) rfl) ?_
        refine zJ_iload_n dX9_goesTo_4 rfl ?_
        refine zJ_ialdN (i := x) (v := (nI k.1)) dX9_goesTo_5 (by first | rfl | assumption | exact hM.at (by decide) (by decide)) rfl (by omega) (by decide) y1 ?_
        refine zJ_istore_n (ls2 := fun x6 => [(3, .int x6), (0, .ref 100), (1, .int (nI x)), (2, .int (nI t))]) dX9_goesTo_6 (by decide) (fun _ => rfl) (fun x6 ex6 => ?_)
        obtain rfl : x6 = (nI k.1) := ex6
        refine zJ_aload_n dX9_goesTo_7 rfl ?_
        refine zJ_iload_n dX9_goesTo_8 rfl ?_
        refine zJ_cV1 dX9_goesTo_9 sX9_386 mfX9_weightsOf (c_Mo_weightsOf Δ w T K hK0 hT0 x k hx) (by first | rfl | assumption | exact hM.at (by decide) (by decide)) rfl (Nat.le_of_ble_eq_true rfl) (by decide) (by decide) ?_
        refine zJ_if_ne (tgt := 17) dX9_goesTo_12 (by decide) (fun h12 => ?_) (fun h9 => absurd h9 hne)
        refine zJ_aload_n dX9_goesTo_17 rfl ?_
        refine zJ_getr (j := 148) dX9_goesTo_18 fX9_70 (by first | rfl | assumption | exact hM.at (by decide) (by decide)) rfl (by first | rfl | assumption | exact hM.rf (by decide) rfl) ?_
        refine zJ_iload_n dX9_goesTo_21 rfl ?_
        refine zJ_ialdN (i := k.1) (v := (nI (T.2.1 k.1))) dX9_goesTo_22 (by first | rfl | assumption | exact hM.at (by decide) (by decide)) rfl (by omega) (by decide) (mso k.1 hkp) ?_
        rw [hs]
        refine zJ_iconst (v := 2) dX9_goesTo_23 (by decide) ?_
        refine zJ_icmp_ne (tgt := 45) dX9_goesTo_24 (by decide) (fun h9 => False.elim (by revert h9; decide)) (fun _ => ?_)
        refine zJ_aload_n dX9_goesTo_27 rfl ?_
        refine zJ_sipush (v := 1000) dX9_goesTo_28 (by decide) ?_
        refine zJ_cV1 dX9_goesTo_31 sX9_468 mfX9_draw (c_Mo_draw Δ w hM 1000 (by decide) (by decide)) (by first | rfl | assumption | exact hM.at (by decide) (by decide)) rfl (Nat.le_of_ble_eq_true rfl) (by decide) (by decide) ?_
        refine zJ_aload_n dX9_goesTo_34 rfl ?_
        refine zJ_getr (j := 149) dX9_goesTo_35 fX9_73 (by first | rfl | assumption | exact M1.at (by decide) (by decide)) rfl (by first | rfl | assumption | exact M1.rf (by decide) rfl) ?_
        refine zJ_iload_n dX9_goesTo_38 rfl ?_
        refine zJ_ialdN (i := k.1) (v := (nI (T.2.2.1 k.1))) dX9_goesTo_39 (by first | rfl | assumption | exact M1.at (by decide) (by decide)) rfl (by omega) (by decide) nnu ?_
        refine zJ_icmp_ge (tgt := 45) dX9_goesTo_40 (by decide) (fun h40d => ?_) (fun h9 => absurd ((nI_leI (by omega) (by omega)).mpr (by omega)) h9)
        refine zJ_aload_n dX9_goesTo_45 rfl ?_
        refine zJ_getr (j := 148) dX9_goesTo_46 fX9_70 (by first | rfl | assumption | exact M1.at (by decide) (by decide)) rfl (by first | rfl | assumption | exact M1.rf (by decide) rfl) ?_
        refine zJ_iload_n dX9_goesTo_49 rfl ?_
        refine zJ_ialdN (i := k.1) (v := (nI (T.2.1 k.1))) dX9_goesTo_50 (by first | rfl | assumption | exact M1.at (by decide) (by decide)) rfl (by omega) (by decide) nso ?_
        rw [hs]
        refine zJ_if_ne (tgt := 70) dX9_goesTo_51 (by decide) (fun _ => ?_) (fun h9 => False.elim (by revert h9; decide))
        refine zJ_aload_n dX9_goesTo_70 rfl ?_
        refine zJ_getr (j := 148) dX9_goesTo_71 fX9_70 (by first | rfl | assumption | exact M1.at (by decide) (by decide)) rfl (by first | rfl | assumption | exact M1.rf (by decide) rfl) ?_
        refine zJ_iload_n dX9_goesTo_74 rfl ?_
        refine zJ_ialdN (i := k.1) (v := (nI (T.2.1 k.1))) dX9_goesTo_75 (by first | rfl | assumption | exact M1.at (by decide) (by decide)) rfl (by omega) (by decide) nso ?_
        rw [hs]
        refine zJ_iconst (v := 3) dX9_goesTo_76 (by decide) ?_
        refine zJ_icmp_ne (tgt := 115) dX9_goesTo_77 (by decide) (fun _ => ?_) (fun h9 => False.elim (by revert h9; decide))
        refine zMo_goT Δ _ T K hK1 hT0 x k hx ot (ho.fm f1 (by decide)) t ht O hO ?_
        rw [zsi_at, zsi_si]
        exact hQ
    · have hbx := hB x k hx hs
      cases hz : zcC T k with
      | none =>
        rw [hz] at hbx
        have hQ1 := hst (by simp [zgo, zsh, hmb, hs, hz])
        refine zJ_aload_n dX9_goesTo_0 rfl ?_
        refine zJ_getr (j := 139) dX9_goesTo_1 fX9_50 (by first | rfl | assumption | exact hM.at (by decide) (by decide)) rfl (by first | rfl | assumption | exact hM.rf (by decide) rfl) ?_
        refine zJ_iload_n dX9_goesTo_4 rfl ?_
        refine zJ_ialdN (i := x) (v := (nI k.1)) dX9_goesTo_5 (by first | rfl | assumption | exact hM.at (by decide) (by decide)) rfl (by omega) (by decide) y1 ?_
        refine zJ_istore_n (ls2 := fun x6 => [(3, .int x6), (0, .ref 100), (1, .int (nI x)), (2, .int (nI t))]) dX9_goesTo_6 (by decide) (fun _ => rfl) (fun x6 ex6 => ?_)
        obtain rfl : x6 = (nI k.1) := ex6
        refine zJ_aload_n dX9_goesTo_7 rfl ?_
        refine zJ_iload_n dX9_goesTo_8 rfl ?_
        refine zJ_cV1 dX9_goesTo_9 sX9_386 mfX9_weightsOf (c_Mo_weightsOf Δ w T K hK0 hT0 x k hx) (by first | rfl | assumption | exact hM.at (by decide) (by decide)) rfl (Nat.le_of_ble_eq_true rfl) (by decide) (by decide) ?_
        refine zJ_if_ne (tgt := 17) dX9_goesTo_12 (by decide) (fun h12 => ?_) (fun h9 => absurd h9 hne)
        refine zJ_aload_n dX9_goesTo_17 rfl ?_
        refine zJ_getr (j := 148) dX9_goesTo_18 fX9_70 (by first | rfl | assumption | exact hM.at (by decide) (by decide)) rfl (by first | rfl | assumption | exact hM.rf (by decide) rfl) ?_
        refine zJ_iload_n dX9_goesTo_21 rfl ?_
        refine zJ_ialdN (i := k.1) (v := (nI (T.2.1 k.1))) dX9_goesTo_22 (by first | rfl | assumption | exact hM.at (by decide) (by decide)) rfl (by omega) (by decide) (mso k.1 hkp) ?_
        rw [hs]
        refine zJ_iconst (v := 2) dX9_goesTo_23 (by decide) ?_
        refine zJ_icmp_ne (tgt := 45) dX9_goesTo_24 (by decide) (fun _ => ?_) (fun h9 => False.elim (by revert h9; decide))
        refine zJ_aload_n dX9_goesTo_45 rfl ?_
        refine zJ_getr (j := 148) dX9_goesTo_46 fX9_70 (by first | rfl | assumption | exact hM.at (by decide) (by decide)) rfl (by first | rfl | assumption | exact hM.rf (by decide) rfl) ?_
        refine zJ_iload_n dX9_goesTo_49 rfl ?_
        refine zJ_ialdN (i := k.1) (v := (nI (T.2.1 k.1))) dX9_goesTo_50 (by first | rfl | assumption | exact hM.at (by decide) (by decide)) rfl (by omega) (by decide) (mso k.1 hkp) ?_
        rw [hs]
        refine zJ_if_ne (tgt := 70) dX9_goesTo_51 (by decide) (fun _ => ?_) (fun h9 => False.elim (by revert h9; decide))
        refine zJ_aload_n dX9_goesTo_70 rfl ?_
        refine zJ_getr (j := 148) dX9_goesTo_71 fX9_70 (by first | rfl | assumption | exact hM.at (by decide) (by decide)) rfl (by first | rfl | assumption | exact hM.rf (by decide) rfl) ?_
        refine zJ_iload_n dX9_goesTo_74 rfl ?_
        refine zJ_ialdN (i := k.1) (v := (nI (T.2.1 k.1))) dX9_goesTo_75 (by first | rfl | assumption | exact hM.at (by decide) (by decide)) rfl (by omega) (by decide) (mso k.1 hkp) ?_
        rw [hs]
        refine zJ_iconst (v := 3) dX9_goesTo_76 (by decide) ?_
        refine zJ_icmp_ne (tgt := 115) dX9_goesTo_77 (by decide) (fun h9 => False.elim (by revert h9; decide)) (fun _ => ?_)
        refine zJ_aload_n dX9_goesTo_80 rfl ?_
        refine zJ_getr (j := 152) dX9_goesTo_81 fX9_83 (by first | rfl | assumption | exact hM.at (by decide) (by decide)) rfl (by first | rfl | assumption | exact hM.rf (by decide) rfl) ?_
        refine zJ_iload_n dX9_goesTo_84 rfl ?_
        refine zJ_ialdN (i := x) (v := (-1)) dX9_goesTo_85 (by first | rfl | assumption | exact hM.at (by decide) (by decide)) rfl (by omega) (by decide) hbx ?_
        refine zJ_iconst (v := (-1)) dX9_goesTo_86 (by decide) ?_
        refine zJ_icmp_eq (tgt := 104) dX9_goesTo_87 (by decide) (fun _ => ?_) (fun h9 => False.elim (by revert h9; decide))
        refine zJ_iconst (v := (-1)) dX9_goesTo_104 (by decide) ?_
        refine zJ_goto (tgt := 114) dX9_goesTo_105 (by decide) ?_
        exact zJ_iret dX9_goesTo_114 rfl (by decide) (by decide) hQ1
      | some q =>
        rw [hz] at hbx
        obtain ⟨hq8, hqm⟩ := zcC_may hz
        cases hoq : O q with
        | true =>
          have hlt : t < ot q := of_decide_eq_true ((hO q hq8).symm.trans hoq)
          have hQ1 := hst (by simp [zgo, zgt, zsh, hmb, hs, hz, hoq])
          refine zJ_aload_n dX9_goesTo_0 rfl ?_
          refine zJ_getr (j := 139) dX9_goesTo_1 fX9_50 (by first | rfl | assumption | exact hM.at (by decide) (by decide)) rfl (by first | rfl | assumption | exact hM.rf (by decide) rfl) ?_
          refine zJ_iload_n dX9_goesTo_4 rfl ?_
          refine zJ_ialdN (i := x) (v := (nI k.1)) dX9_goesTo_5 (by first | rfl | assumption | exact hM.at (by decide) (by decide)) rfl (by omega) (by decide) y1 ?_
          refine zJ_istore_n (ls2 := fun x6 => [(3, .int x6), (0, .ref 100), (1, .int (nI x)), (2, .int (nI t))]) dX9_goesTo_6 (by decide) (fun _ => rfl) (fun x6 ex6 => ?_)
          obtain rfl : x6 = (nI k.1) := ex6
          refine zJ_aload_n dX9_goesTo_7 rfl ?_
          refine zJ_iload_n dX9_goesTo_8 rfl ?_
          refine zJ_cV1 dX9_goesTo_9 sX9_386 mfX9_weightsOf (c_Mo_weightsOf Δ w T K hK0 hT0 x k hx) (by first | rfl | assumption | exact hM.at (by decide) (by decide)) rfl (Nat.le_of_ble_eq_true rfl) (by decide) (by decide) ?_
          refine zJ_if_ne (tgt := 17) dX9_goesTo_12 (by decide) (fun h12 => ?_) (fun h9 => absurd h9 hne)
          refine zJ_aload_n dX9_goesTo_17 rfl ?_
          refine zJ_getr (j := 148) dX9_goesTo_18 fX9_70 (by first | rfl | assumption | exact hM.at (by decide) (by decide)) rfl (by first | rfl | assumption | exact hM.rf (by decide) rfl) ?_
          refine zJ_iload_n dX9_goesTo_21 rfl ?_
          refine zJ_ialdN (i := k.1) (v := (nI (T.2.1 k.1))) dX9_goesTo_22 (by first | rfl | assumption | exact hM.at (by decide) (by decide)) rfl (by omega) (by decide) (mso k.1 hkp) ?_
          rw [hs]
          refine zJ_iconst (v := 2) dX9_goesTo_23 (by decide) ?_
          refine zJ_icmp_ne (tgt := 45) dX9_goesTo_24 (by decide) (fun _ => ?_) (fun h9 => False.elim (by revert h9; decide))
          refine zJ_aload_n dX9_goesTo_45 rfl ?_
          refine zJ_getr (j := 148) dX9_goesTo_46 fX9_70 (by first | rfl | assumption | exact hM.at (by decide) (by decide)) rfl (by first | rfl | assumption | exact hM.rf (by decide) rfl) ?_
          refine zJ_iload_n dX9_goesTo_49 rfl ?_
          refine zJ_ialdN (i := k.1) (v := (nI (T.2.1 k.1))) dX9_goesTo_50 (by first | rfl | assumption | exact hM.at (by decide) (by decide)) rfl (by omega) (by decide) (mso k.1 hkp) ?_
          rw [hs]
          refine zJ_if_ne (tgt := 70) dX9_goesTo_51 (by decide) (fun _ => ?_) (fun h9 => False.elim (by revert h9; decide))
          refine zJ_aload_n dX9_goesTo_70 rfl ?_
          refine zJ_getr (j := 148) dX9_goesTo_71 fX9_70 (by first | rfl | assumption | exact hM.at (by decide) (by decide)) rfl (by first | rfl | assumption | exact hM.rf (by decide) rfl) ?_
          refine zJ_iload_n dX9_goesTo_74 rfl ?_
          refine zJ_ialdN (i := k.1) (v := (nI (T.2.1 k.1))) dX9_goesTo_75 (by first | rfl | assumption | exact hM.at (by decide) (by decide)) rfl (by omega) (by decide) (mso k.1 hkp) ?_
          rw [hs]
          refine zJ_iconst (v := 3) dX9_goesTo_76 (by decide) ?_
          refine zJ_icmp_ne (tgt := 115) dX9_goesTo_77 (by decide) (fun h9 => False.elim (by revert h9; decide)) (fun _ => ?_)
          refine zJ_aload_n dX9_goesTo_80 rfl ?_
          refine zJ_getr (j := 152) dX9_goesTo_81 fX9_83 (by first | rfl | assumption | exact hM.at (by decide) (by decide)) rfl (by first | rfl | assumption | exact hM.rf (by decide) rfl) ?_
          refine zJ_iload_n dX9_goesTo_84 rfl ?_
          refine zJ_ialdN (i := x) (v := (nI q)) dX9_goesTo_85 (by first | rfl | assumption | exact hM.at (by decide) (by decide)) rfl (by omega) (by decide) hbx ?_
          refine zJ_iconst (v := (-1)) dX9_goesTo_86 (by decide) ?_
          refine zJ_icmp_eq (tgt := 104) dX9_goesTo_87 (by decide) (fun h9 => absurd h9 (nI_m1 (show q < 2 ^ 31 by omega))) (fun h87 => ?_)
          refine zJ_aload_n dX9_goesTo_90 rfl ?_
          refine zJ_aload_n dX9_goesTo_91 rfl ?_
          refine zJ_getr (j := 152) dX9_goesTo_92 fX9_83 (by first | rfl | assumption | exact hM.at (by decide) (by decide)) rfl (by first | rfl | assumption | exact hM.rf (by decide) rfl) ?_
          refine zJ_iload_n dX9_goesTo_95 rfl ?_
          refine zJ_ialdN (i := x) (v := (nI q)) dX9_goesTo_96 (by first | rfl | assumption | exact hM.at (by decide) (by decide)) rfl (by omega) (by decide) hbx ?_
          refine zJ_iload_n dX9_goesTo_97 rfl ?_
          refine zJ_cV2 dX9_goesTo_98 sX9_471 mfX9_isOut (c_Mo_isOut Δ w hM ot ho q t hq8 ht) (by first | rfl | assumption | exact hM.at (by decide) (by decide)) rfl (Nat.le_of_ble_eq_true rfl) (by decide) (by decide) ?_
          rw [if_pos hlt]
          refine zJ_if_eq (tgt := 108) dX9_goesTo_101 (by decide) (fun h9 => False.elim (by revert h9; decide)) (fun _ => ?_)
          refine zJ_iconst (v := (-1)) dX9_goesTo_104 (by decide) ?_
          refine zJ_goto (tgt := 114) dX9_goesTo_105 (by decide) ?_
          exact zJ_iret dX9_goesTo_114 rfl (by decide) (by decide) hQ1
        | false =>
          have hlt : ¬ t < ot q := of_decide_eq_false ((hO q hq8).symm.trans hoq)
          rw [show zgo T k O (w.2.1 178 0) = (some q, w.2.1 178 0) by simp [zgo, zgt, zsh, hmb, hs, hz, hoq]] at hQ
          have hQ1 : QR (some (.int (nI q))) w := by
            rw [← zsi_self w 178 0]
            exact hQ
          refine zJ_aload_n dX9_goesTo_0 rfl ?_
          refine zJ_getr (j := 139) dX9_goesTo_1 fX9_50 (by first | rfl | assumption | exact hM.at (by decide) (by decide)) rfl (by first | rfl | assumption | exact hM.rf (by decide) rfl) ?_
          refine zJ_iload_n dX9_goesTo_4 rfl ?_
          refine zJ_ialdN (i := x) (v := (nI k.1)) dX9_goesTo_5 (by first | rfl | assumption | exact hM.at (by decide) (by decide)) rfl (by omega) (by decide) y1 ?_
          refine zJ_istore_n (ls2 := fun x6 => [(3, .int x6), (0, .ref 100), (1, .int (nI x)), (2, .int (nI t))]) dX9_goesTo_6 (by decide) (fun _ => rfl) (fun x6 ex6 => ?_)
          obtain rfl : x6 = (nI k.1) := ex6
          refine zJ_aload_n dX9_goesTo_7 rfl ?_
          refine zJ_iload_n dX9_goesTo_8 rfl ?_
          refine zJ_cV1 dX9_goesTo_9 sX9_386 mfX9_weightsOf (c_Mo_weightsOf Δ w T K hK0 hT0 x k hx) (by first | rfl | assumption | exact hM.at (by decide) (by decide)) rfl (Nat.le_of_ble_eq_true rfl) (by decide) (by decide) ?_
          refine zJ_if_ne (tgt := 17) dX9_goesTo_12 (by decide) (fun h12 => ?_) (fun h9 => absurd h9 hne)
          refine zJ_aload_n dX9_goesTo_17 rfl ?_
          refine zJ_getr (j := 148) dX9_goesTo_18 fX9_70 (by first | rfl | assumption | exact hM.at (by decide) (by decide)) rfl (by first | rfl | assumption | exact hM.rf (by decide) rfl) ?_
          refine zJ_iload_n dX9_goesTo_21 rfl ?_
          refine zJ_ialdN (i := k.1) (v := (nI (T.2.1 k.1))) dX9_goesTo_22 (by first | rfl | assumption | exact hM.at (by decide) (by decide)) rfl (by omega) (by decide) (mso k.1 hkp) ?_
          rw [hs]
          refine zJ_iconst (v := 2) dX9_goesTo_23 (by decide) ?_
          refine zJ_icmp_ne (tgt := 45) dX9_goesTo_24 (by decide) (fun _ => ?_) (fun h9 => False.elim (by revert h9; decide))
          refine zJ_aload_n dX9_goesTo_45 rfl ?_
          refine zJ_getr (j := 148) dX9_goesTo_46 fX9_70 (by first | rfl | assumption | exact hM.at (by decide) (by decide)) rfl (by first | rfl | assumption | exact hM.rf (by decide) rfl) ?_
          refine zJ_iload_n dX9_goesTo_49 rfl ?_
          refine zJ_ialdN (i := k.1) (v := (nI (T.2.1 k.1))) dX9_goesTo_50 (by first | rfl | assumption | exact hM.at (by decide) (by decide)) rfl (by omega) (by decide) (mso k.1 hkp) ?_
          rw [hs]
          refine zJ_if_ne (tgt := 70) dX9_goesTo_51 (by decide) (fun _ => ?_) (fun h9 => False.elim (by revert h9; decide))
          refine zJ_aload_n dX9_goesTo_70 rfl ?_
          refine zJ_getr (j := 148) dX9_goesTo_71 fX9_70 (by first | rfl | assumption | exact hM.at (by decide) (by decide)) rfl (by first | rfl | assumption | exact hM.rf (by decide) rfl) ?_
          refine zJ_iload_n dX9_goesTo_74 rfl ?_
          refine zJ_ialdN (i := k.1) (v := (nI (T.2.1 k.1))) dX9_goesTo_75 (by first | rfl | assumption | exact hM.at (by decide) (by decide)) rfl (by omega) (by decide) (mso k.1 hkp) ?_
          rw [hs]
          refine zJ_iconst (v := 3) dX9_goesTo_76 (by decide) ?_
          refine zJ_icmp_ne (tgt := 115) dX9_goesTo_77 (by decide) (fun h9 => False.elim (by revert h9; decide)) (fun _ => ?_)
          refine zJ_aload_n dX9_goesTo_80 rfl ?_
          refine zJ_getr (j := 152) dX9_goesTo_81 fX9_83 (by first | rfl | assumption | exact hM.at (by decide) (by decide)) rfl (by first | rfl | assumption | exact hM.rf (by decide) rfl) ?_
          refine zJ_iload_n dX9_goesTo_84 rfl ?_
          refine zJ_ialdN (i := x) (v := (nI q)) dX9_goesTo_85 (by first | rfl | assumption | exact hM.at (by decide) (by decide)) rfl (by omega) (by decide) hbx ?_
          refine zJ_iconst (v := (-1)) dX9_goesTo_86 (by decide) ?_
          refine zJ_icmp_eq (tgt := 104) dX9_goesTo_87 (by decide) (fun h9 => absurd h9 (nI_m1 (show q < 2 ^ 31 by omega))) (fun h87 => ?_)
          refine zJ_aload_n dX9_goesTo_90 rfl ?_
          refine zJ_aload_n dX9_goesTo_91 rfl ?_
          refine zJ_getr (j := 152) dX9_goesTo_92 fX9_83 (by first | rfl | assumption | exact hM.at (by decide) (by decide)) rfl (by first | rfl | assumption | exact hM.rf (by decide) rfl) ?_
          refine zJ_iload_n dX9_goesTo_95 rfl ?_
          refine zJ_ialdN (i := x) (v := (nI q)) dX9_goesTo_96 (by first | rfl | assumption | exact hM.at (by decide) (by decide)) rfl (by omega) (by decide) hbx ?_
          refine zJ_iload_n dX9_goesTo_97 rfl ?_
          refine zJ_cV2 dX9_goesTo_98 sX9_471 mfX9_isOut (c_Mo_isOut Δ w hM ot ho q t hq8 ht) (by first | rfl | assumption | exact hM.at (by decide) (by decide)) rfl (Nat.le_of_ble_eq_true rfl) (by decide) (by decide) ?_
          rw [if_neg hlt]
          refine zJ_if_eq (tgt := 108) dX9_goesTo_101 (by decide) (fun _ => ?_) (fun h9 => False.elim (by revert h9; decide))
          refine zJ_aload_n dX9_goesTo_108 rfl ?_
          refine zJ_getr (j := 152) dX9_goesTo_109 fX9_83 (by first | rfl | assumption | exact hM.at (by decide) (by decide)) rfl (by first | rfl | assumption | exact hM.rf (by decide) rfl) ?_
          refine zJ_iload_n dX9_goesTo_112 rfl ?_
          refine zJ_ialdN (i := x) (v := (nI q)) dX9_goesTo_113 (by first | rfl | assumption | exact hM.at (by decide) (by decide)) rfl (by omega) (by decide) hbx ?_
          exact zJ_iret dX9_goesTo_114 rfl (by decide) (by decide) hQ1
