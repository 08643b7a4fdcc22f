/-! LetterTown$Play: chances, odds, cases read off -/
set_option maxRecDepth 100000 in
theorem c_Play_chanceTo (Δ : zD) (w : zW) (b R m : Nat) (T : zTo) (K : List zKy) (hG : zGr w b R m T K) (x : Nat) (k : zKy) (hx : K[x]? = some k) (hcs : zChs w b T K) (y v : Nat) (hy : y < 8) (hv : v ≤ 1000000000) : zMd Δ 3 0 0 true yX1_chanceTo mX1_chanceTo [.ref b, .int (nI x), .int (nI y), .long (lN v)] w (some (.long (lN (zst1 T k v y)))) w := by
  refine zMd.of mfX1_chanceTo (Nat.le_of_ble_eq_true rfl) (fun QR hQ => ?_)
  have hG0 := hG
  obtain ⟨⟨p0, q0, q1, q2, q3, q4, q5, q6, q7, q8, q9, s11, s12, s13, s14, s15, s16, s17, s18, hS⟩, hi, hT, hall, hL, hrow⟩ := hG
  have hS0 := hS
  obtain ⟨g0, r1, r2, r3, r4, g1, g2, g3, g4, hR, hRm, hm, hR0⟩ := hS
  have hi0 := hi
  obtain ⟨t0, u1, u2, u3, u4, t1, t2, t3, t4⟩ := hi.1
  obtain ⟨-, hsc, hso, hnu, hkn, hwt⟩ := hi
  have hT0 := hT
  obtain ⟨hp0, hp5, hp6, hp7, hp8, hp9, hp10, hp11, hp12, hp13, hpp, hpw⟩ := hT
  have hm2 : 2 ^ m ≤ 2 ^ 15 := Nat.pow_le_pow_right (by decide) hm
  have hKR : K.length ≤ R := hL.2.2.1
  have hxK : x < K.length := (List.getElem?_eq_some_iff.mp hx).1
  have hk : zkok T k := hL.2.2.2.1 k (List.mem_iff_getElem?.mpr ⟨x, hx⟩)
  have cx : (nI x).toNatClampNeg = x := nI_clamp (by omega)
  have hky : w.2.2.1 (b + 6 + 1) x = lN (zenc T k) := hL.1 x k hx
  have hP := zenc_parts hT0 hk
  have hE52 := zenc_lt hT0 hk
  have hk1 : k.1 < 8 := hk.1
  have hk2 := hk.2.1
  have hbl := zmb_lt T k
  have hmayx := (hrow x k hx).1
  have hnx := (hrow x k hx).2
  have hso1 := hso k.1 hk1
  have hnu1 := hnu k.1 hk1
  have hsl := (hpp k.1).1
  have hnl := (hpp k.1).2.1
  have ck : (nI k.1).toNatClampNeg = k.1 := nI_clamp (by omega)
  have hC := hcs x k hx
  have hC8 : ∀ q, zcC T k = some q → q < 8 := fun q h => (zcC_may h).1
  have hB256 := ztb_256 (T := T) (k := k)
  have hs1000 := zsh_1000 hT0 k (zcC T k)
  have hUl := zwt_le (B := ztb T k (zcC T k)) hT0 hk1 8 (Nat.le_refl 8)
  refine zJ_aload_n dX1_chanceTo_0 rfl ?_
  refine zJ_getr dX1_chanceTo_1 fX1_34 (by first | rfl | assumption) rfl (by first | rfl | assumption) ?_
  refine zJ_getr dX1_chanceTo_4 fX1_101 (by first | rfl | assumption) rfl (by first | rfl | assumption) ?_
  refine zJ_iload_n dX1_chanceTo_7 rfl ?_
  refine zJ_lald dX1_chanceTo_8 (by first | rfl | assumption) (vp_in_nI (by omega) (by omega)) ?_
  rw [cx, hky]
  refine zJ_cS1 dX1_chanceTo_9 sX1_104 mfX6_whoOf (c_Ways_whoOf Δ w (zenc T k)) (Nat.le_of_ble_eq_true rfl) (by decide) (by decide) ?_
  rw [hP.1]
  refine zJ_istore (ls2 := fun x12 => [(5, .int x12), (0, .ref b), (1, .int (nI x)), (2, .int (nI y)), (3, .long (lN v))]) dX1_chanceTo_12 (by decide) (fun _ => rfl) (fun x12 ex12 => ?_)
  obtain rfl : x12 = (nI k.1) := ex12
  refine zJ_aload_n dX1_chanceTo_14 rfl ?_
  refine zJ_iload_n dX1_chanceTo_15 rfl ?_
  refine zJ_cV1 dX1_chanceTo_16 sX1_155 mfX1_targetsOf (c_Play_targetsOf Δ w b R m T K hG0 x k hx (zcC T k) hC hC8) (by first | rfl | assumption) rfl (Nat.le_of_ble_eq_true rfl) (by decide) (by decide) ?_
  refine zJ_istore (ls2 := fun x19 => [(6, .int x19), (5, .int (nI k.1)), (0, .ref b), (1, .int (nI x)), (2, .int (nI y)), (3, .long (lN v))]) dX1_chanceTo_19 (by decide) (fun _ => rfl) (fun x19 ex19 => ?_)
  obtain rfl : x19 = (nI (ztb T k (zcC T k))) := ex19
  refine zJ_aload_n dX1_chanceTo_21 rfl ?_
  refine zJ_iload dX1_chanceTo_22 rfl ?_
  refine zJ_iload dX1_chanceTo_24 rfl ?_
  refine zJ_cV2 dX1_chanceTo_26 sX1_205 mfX1_weightsTo (c_Play_weightsTo Δ w b R m T K hG0 k.1 (ztb T k (zcC T k)) hk1 hB256) (by first | rfl | assumption) rfl (Nat.le_of_ble_eq_true rfl) (by decide) (by decide) ?_
  refine zJ_istore (ls2 := fun x29 => [(7, .int x29), (6, .int (nI (ztb T k (zcC T k)))), (5, .int (nI k.1)), (0, .ref b), (1, .int (nI x)), (2, .int (nI y)), (3, .long (lN v))]) dX1_chanceTo_29 (by decide) (fun _ => rfl) (fun x29 ex29 => ?_)
  obtain rfl : x29 = (nI (zwt T k.1 (ztb T k (zcC T k)) 8)) := ex29
  refine zJ_iload dX1_chanceTo_31 rfl ?_
  refine zJ_iload_n dX1_chanceTo_33 rfl ?_
  refine zJ_ishr dX1_chanceTo_34 ?_
  refine zJ_iconst (v := 1) dX1_chanceTo_35 (by decide) ?_
  refine zJ_iand dX1_chanceTo_36 ?_
  rw [nI_bit (by omega) (by omega)]
  refine zJ_if_eq (tgt := 45) dX1_chanceTo_37 (by decide) (fun h37 => ?_) (fun h37 => ?_)
  · have hz : zst1 T k v y = 0 := by
      simp only [zst1]
      rw [if_neg]
      rintro ⟨h1, h2⟩
      rw [tb_of.mp h1] at h37
      exact absurd h37 (by decide)
    rw [hz] at hQ
    refine zJ_lconst (v := 0) dX1_chanceTo_45 (by decide) ?_
    exact zJ_lret dX1_chanceTo_46 rfl (by decide) (by decide) hQ
  · refine zJ_iload dX1_chanceTo_40 rfl ?_
    refine zJ_if_gt (tgt := 47) dX1_chanceTo_42 (by decide) (fun h42 => ?_) (fun h42 => ?_)
    · have hb : (ztb T k (zcC T k)).testBit y = true := by
        rw [tb_of]
        have h1 : ¬ ztb T k (zcC T k) / 2 ^ y % 2 = 0 := fun h => h37 (by rw [h]; rfl)
        omega
      have hU : 0 < zwt T k.1 (ztb T k (zcC T k)) 8 := (nI_ltI (a := 0) (by decide) (by omega)).mp h42
      have hu := zwu_le hT0 hk1 hy
      have hm1 : v * (1000 - zsh T k (zcC T k)) ≤ 1000000000 * 1000 := Nat.mul_le_mul hv (by omega)
      have hm2 : v * (1000 - zsh T k (zcC T k)) / 1000 * zwu T k.1 y ≤ 1000000000 * 99 := Nat.mul_le_mul (by omega) hu
      refine zJ_lload_n dX1_chanceTo_47 rfl ?_
      refine zJ_sipush (v := 1000) dX1_chanceTo_48 (by decide) ?_
      refine zJ_aload_n dX1_chanceTo_51 rfl ?_
      refine zJ_iload_n dX1_chanceTo_52 rfl ?_
      refine zJ_cV1 dX1_chanceTo_53 sX1_123 mfX1_shareOpened (c_Play_shareOpened Δ w b R m T K hG0 x k hx (zcC T k) hC hC8) (by first | rfl | assumption) rfl (Nat.le_of_ble_eq_true rfl) (by decide) (by decide) ?_
      refine zJ_isub dX1_chanceTo_56 ?_
      rw [show (1000 : Int32) - nI (zsh T k (zcC T k)) = nI (1000 - zsh T k (zcC T k)) from na_sub (a := 1000) (by omega)]
      refine zJ_i2l dX1_chanceTo_57 ?_
      rw [nI_l (by omega)]
      refine zJ_lmul dX1_chanceTo_58 ?_
      rw [lN_mul]
      refine zJ_ldc2 dX1_chanceTo_59 kX1_139 ?_
      refine zJ_ldiv dX1_chanceTo_62 (by decide) ?_
      refine zJ_lstore (ls2 := fun x63 => [(8, .long x63), (7, .int (nI (zwt T k.1 (ztb T k (zcC T k)) 8))), (6, .int (nI (ztb T k (zcC T k)))), (5, .int (nI k.1)), (0, .ref b), (1, .int (nI x)), (2, .int (nI y)), (3, .long (lN v))]) dX1_chanceTo_63 (by decide) (fun _ => rfl) (fun x63 ex63 => ?_)
      obtain rfl : x63 = (lN (v * (1000 - zsh T k (zcC T k)) / 1000)) := by rw [ex63]; exact lN_div (by omega) (by decide)
      refine zJ_lload dX1_chanceTo_65 rfl ?_
      refine zJ_aload_n dX1_chanceTo_67 rfl ?_
      refine zJ_iload dX1_chanceTo_68 rfl ?_
      refine zJ_iload_n dX1_chanceTo_70 rfl ?_
      refine zJ_cV2 dX1_chanceTo_71 sX1_161 mfX1_weightTo (c_Play_weightTo Δ w b R m T K hG0 k.1 y hk1 hy) (by first | rfl | assumption) rfl (Nat.le_of_ble_eq_true rfl) (by decide) (by decide) ?_
      refine zJ_i2l dX1_chanceTo_74 ?_
      rw [nI_l (by omega)]
      refine zJ_lmul dX1_chanceTo_75 ?_
      rw [lN_mul]
      refine zJ_iload dX1_chanceTo_76 rfl ?_
      refine zJ_i2l dX1_chanceTo_78 ?_
      rw [nI_l (by omega)]
      refine zJ_ldiv dX1_chanceTo_79 (fun h => absurd ((lN_ltL (a := 0) (by decide) (by omega)).mpr hU) (by rw [h]; decide)) ?_
      rw [lN_div (by omega) (by omega), show v * (1000 - zsh T k (zcC T k)) / 1000 * zwu T k.1 y / zwt T k.1 (ztb T k (zcC T k)) 8 = zst1 T k v y by simp only [zst1]; rw [if_pos ⟨hb, hU⟩]]
      exact zJ_lret dX1_chanceTo_80 rfl (by decide) (by decide) hQ
    · have hz : zst1 T k v y = 0 := by
        simp only [zst1]
        rw [if_neg]
        rintro ⟨h1, h2⟩
        exact h42 ((nI_ltI (a := 0) (by decide) (by omega)).mpr h2)
      rw [hz] at hQ
      refine zJ_lconst (v := 0) dX1_chanceTo_45 (by decide) ?_
      exact zJ_lret dX1_chanceTo_46 rfl (by decide) (by decide) hQ
set_option maxRecDepth 100000 in
theorem c_Play_oddsOf (Δ : zD) (w : zW) (b R m : Nat) (T : zTo) (K : List zKy) (hG : zGr w b R m T K) (hcs : zChs w b T K) (r fr n L : Nat) (f : Nat → Nat) (hr : w.1 r = some (.inr (false, L))) (hL9 : L < 2 ^ 20) (hfr : fr + n ≤ L) (hf : ∀ i, i < n → w.2.1 r (fr + i) = nI (f i)) (hf8 : ∀ i, f i < 8) : zMd Δ 4 0 0 true yX1_oddsOf mX1_oddsOf [.ref b, .ref r, .int (nI fr), .int (nI n)] w (some (.long (lN (zodds T f n)))) w := by
  refine zMd.of mfX1_oddsOf (Nat.le_of_ble_eq_true rfl) (fun QR hQ => ?_)
  have hG0 := hG
  obtain ⟨⟨p0, q0, q1, q2, q3, q4, q5, q6, q7, q8, q9, s11, s12, s13, s14, s15, s16, s17, s18, hS⟩, hi, hT, hall, hL, hrow⟩ := hG
  have hS0 := hS
  obtain ⟨g0, r1, r2, r3, r4, g1, g2, g3, g4, hR, hRm, hm, hR0⟩ := hS
  have hi0 := hi
  obtain ⟨t0, u1, u2, u3, u4, t1, t2, t3, t4⟩ := hi.1
  obtain ⟨-, hsc, hso, hnu, hkn, hwt⟩ := hi
  have hT0 := hT
  obtain ⟨hp0, hp5, hp6, hp7, hp8, hp9, hp10, hp11, hp12, hp13, hpp, hpw⟩ := hT
  have hm2 : 2 ^ m ≤ 2 ^ 15 := Nat.pow_le_pow_right (by decide) hm
  have hKR : K.length ≤ R := hL.2.2.1
  have L1 : ∀ j, j ≤ n → ∀ (x v : Nat) (k : zKy), K[x]? = some k → v ≤ 1000000000 → 1 ≤ j → lN (zod T f (n - j) j k v) = lN (zodds T f n) → zJ Δ mX1_oddsOf (zRm 4 0 0) true w.1 QR (fun _ _ => False) 0 0 30 [(7, .int (nI j)), (6, .int (nI x)), (4, .long (lN v)), (0, .ref b), (1, .ref r), (2, .int (nI fr)), (3, .int (nI n))] [] w := by
    refine zup (fun j hj ih x v k hx hv hj1 he => ?_)
    have hxK : x < K.length := (List.getElem?_eq_some_iff.mp hx).1
    have hk : zkok T k := hL.2.2.2.1 k (List.mem_iff_getElem?.mpr ⟨x, hx⟩)
    have cx : (nI x).toNatClampNeg = x := nI_clamp (by omega)
    have hky : w.2.2.1 (b + 6 + 1) x = lN (zenc T k) := hL.1 x k hx
    have hP := zenc_parts hT0 hk
    have hE52 := zenc_lt hT0 hk
    have hk1 : k.1 < 8 := hk.1
    have hk2 := hk.2.1
    have hbl := zmb_lt T k
    have hmayx := (hrow x k hx).1
    have hnx := (hrow x k hx).2
    have hso1 := hso k.1 hk1
    have hnu1 := hnu k.1 hk1
    have hsl := (hpp k.1).1
    have hnl := (hpp k.1).2.1
    have ck : (nI k.1).toNatClampNeg = k.1 := nI_clamp (by omega)
    have hC := hcs x k hx
    have hC8 : ∀ q, zcC T k = some q → q < 8 := fun q h => (zcC_may h).1
    have hB256 := ztb_256 (T := T) (k := k)
    have hs1000 := zsh_1000 hT0 k (zcC T k)
    have hUl := zwt_le (B := ztb T k (zcC T k)) hT0 hk1 8 (Nat.le_refl 8)
    refine zJ_iload dX1_oddsOf_30 rfl ?_
    refine zJ_iload_n dX1_oddsOf_32 rfl ?_
    refine zJ_icmp_ge (tgt := 91) dX1_oddsOf_33 (by decide) (fun h33 => ?_) (fun h33 => ?_)
    · have hj9 : j = n := by exact Nat.le_antisymm hj ((nI_leI (a := n) (b := j) (by omega) (by omega)).mp h33)
      rw [hj9, Nat.sub_self] at he
      simp only [zod] at he
      rw [← he] at hQ
      refine zJ_lload dX1_oddsOf_91 rfl ?_
      refine zJ_aload_n dX1_oddsOf_93 rfl ?_
      refine zJ_iload dX1_oddsOf_94 rfl ?_
      refine zJ_cV1 dX1_oddsOf_96 sX1_123 mfX1_shareOpened (c_Play_shareOpened Δ w b R m T K hG0 x k hx (zcC T k) hC hC8) (by first | rfl | assumption) rfl (Nat.le_of_ble_eq_true rfl) (by decide) (by decide) ?_
      refine zJ_i2l dX1_oddsOf_99 ?_
      rw [nI_l (by omega)]
      refine zJ_lmul dX1_oddsOf_100 ?_
      rw [lN_mul]
      refine zJ_ldc2 dX1_oddsOf_101 kX1_139 ?_
      refine zJ_ldiv dX1_oddsOf_104 (by decide) ?_
      have hm1 : v * zsh T k (zcC T k) ≤ 1000000000 * 1000 := Nat.mul_le_mul hv (by omega)
      rw [show lN (v * zsh T k (zcC T k)) / (1000 : Int64) = lN (zop1 T k v) from lN_div (by omega) (by decide)]
      exact zJ_lret dX1_oddsOf_105 rfl (by decide) (by decide) hQ
    · have hj9 : j < n := Nat.lt_of_not_le fun hq9 => h33 (by exact (nI_leI (a := n) (b := j) (by omega) (by omega)).mpr hq9)
      have hfj := hf8 j
      have e8 : nI x * 8 + nI (f j) = nI (x * 8 + f j) := by rw [show nI x * 8 = nI (x * 8) from na_mul x 8, na_add]
      rw [show n - j = (n - (j + 1)) + 1 by omega] at he
      simp only [zod] at he
      refine zJ_aload_n dX1_oddsOf_36 rfl ?_
      refine zJ_iload_n dX1_oddsOf_37 rfl ?_
      refine zJ_iload dX1_oddsOf_38 rfl ?_
      refine zJ_iadd dX1_oddsOf_40 ?_
      rw [na_add]
      refine zJ_iald dX1_oddsOf_41 (by first | rfl | assumption) (vp_in_nI (by omega) (by omega)) ?_
      refine zJ_istore (ls2 := fun x42 => [(8, .int x42), (7, .int (nI j)), (6, .int (nI x)), (4, .long (lN v)), (0, .ref b), (1, .ref r), (2, .int (nI fr)), (3, .int (nI n))]) dX1_oddsOf_42 (by decide) (fun _ => rfl) (fun x42 ex42 => ?_)
      obtain rfl : x42 = (nI (f j)) := by rw [ex42, nI_clamp (show fr + j < 2 ^ 31 by omega), hf j hj9]
      refine zJ_aload_n dX1_oddsOf_44 rfl ?_
      refine zJ_getr dX1_oddsOf_45 fX1_34 (by first | rfl | assumption) rfl (by first | rfl | assumption) ?_
      refine zJ_getr dX1_oddsOf_48 fX1_158 (by first | rfl | assumption) rfl (by first | rfl | assumption) ?_
      refine zJ_iload dX1_oddsOf_51 rfl ?_
      refine zJ_bipush (v := 8) dX1_oddsOf_53 (by decide) ?_
      refine zJ_imul dX1_oddsOf_55 ?_
      refine zJ_iload dX1_oddsOf_56 rfl ?_
      refine zJ_iadd dX1_oddsOf_58 ?_
      rw [e8]
      refine zJ_iald dX1_oddsOf_59 (by first | rfl | assumption) (vp_in_nI (by omega) (by omega)) ?_
      refine zJ_istore (ls2 := fun x60 => [(9, .int x60), (8, .int (nI (f j))), (7, .int (nI j)), (6, .int (nI x)), (4, .long (lN v)), (0, .ref b), (1, .ref r), (2, .int (nI fr)), (3, .int (nI n))]) dX1_oddsOf_60 (by decide) (fun _ => rfl) (fun x60 ex60 => ?_)
      refine zJ_iload dX1_oddsOf_62 rfl ?_
      refine zJ_if_ge (tgt := 69) dX1_oddsOf_64 (by decide) (fun h64 => ?_) (fun h64 => ?_)
      · have hyes : zmay T k (f j) = true := by
          cases hz : zmay T k (f j) with
          | true => rfl
          | false =>
            rw [ex60, nI_clamp (show x * 8 + f j < 2 ^ 31 by omega), (hnx (f j) hfj).2 hz] at h64
            exact absurd h64 (by decide)
        obtain ⟨c, hc, hnc⟩ := (hnx (f j) hfj).1 hyes
        rw [if_pos hyes] at he
        obtain rfl : x60 = nI c := by rw [ex60, nI_clamp (show x * 8 + f j < 2 ^ 31 by omega), hnc]
        refine zJ_aload_n dX1_oddsOf_69 rfl ?_
        refine zJ_iload dX1_oddsOf_70 rfl ?_
        refine zJ_iload dX1_oddsOf_72 rfl ?_
        refine zJ_lload dX1_oddsOf_74 rfl ?_
        refine zJ_cV3 dX1_oddsOf_76 sX1_217 mfX1_chanceTo (c_Play_chanceTo Δ w b R m T K hG0 x k hx hcs (f j) v (hf8 j) hv) (by first | rfl | assumption) rfl (Nat.le_of_ble_eq_true rfl) (by decide) (by decide) ?_
        refine zJ_lstore (ls2 := fun x79 => [(4, .long x79), (9, .int (nI c)), (8, .int (nI (f j))), (7, .int (nI j)), (6, .int (nI x)), (0, .ref b), (1, .ref r), (2, .int (nI fr)), (3, .int (nI n))]) dX1_oddsOf_79 (by decide) (fun _ => rfl) (fun x79 ex79 => ?_)
        obtain rfl : x79 = (lN (zst1 T k v (f j))) := ex79
        refine zJ_iload dX1_oddsOf_81 rfl ?_
        refine zJ_istore (ls2 := fun x83 => [(6, .int x83), (4, .long (lN (zst1 T k v (f j)))), (9, .int (nI c)), (8, .int (nI (f j))), (7, .int (nI j)), (0, .ref b), (1, .ref r), (2, .int (nI fr)), (3, .int (nI n))]) dX1_oddsOf_83 (by decide) (fun _ => rfl) (fun x83 ex83 => ?_)
        obtain rfl : x83 = (nI c) := ex83
        refine zJ_iinc (ls2 := fun x85 => [(7, .int x85), (6, .int (nI c)), (4, .long (lN (zst1 T k v (f j)))), (9, .int (nI c)), (8, .int (nI (f j))), (0, .ref b), (1, .ref r), (2, .int (nI fr)), (3, .int (nI n))]) dX1_oddsOf_85 rfl (by decide) (fun _ => rfl) (fun x85 ex85 => ?_)
        refine zJ_goto (tgt := 30) dX1_oddsOf_88 (by decide) ?_
        refine zJ_ls [(7, .int x85), (6, .int (nI c)), (4, .long (lN (zst1 T k v (f j)))), (0, .ref b), (1, .ref r), (2, .int (nI fr)), (3, .int (nI n))] (by simp) ?_
        rw [ex85, show nI j + Int32.ofInt 1 = nI (j + 1) from nI_1 _]
        exact ih (j + 1) (by omega) (by omega) c _ _ hc (Nat.le_trans (zst1_le k v hfj) hv) (by omega) he
      · have hno : zmay T k (f j) = false := by
          cases hz : zmay T k (f j) with
          | false => rfl
          | true =>
            obtain ⟨c, hc, hnc⟩ := (hnx (f j) hfj).1 hz
            have hcK : c < K.length := (List.getElem?_eq_some_iff.mp hc).1
            rw [ex60, nI_clamp (show x * 8 + f j < 2 ^ 31 by omega), hnc] at h64
            exact absurd ((nI_leI (a := 0) (b := c) (by decide) (by omega)).mpr (Nat.zero_le _)) h64
        rw [if_neg (by rw [hno]; decide)] at he
        rw [← he] at hQ
        refine zJ_lconst (v := 0) dX1_oddsOf_67 (by decide) ?_
        exact zJ_lret dX1_oddsOf_68 rfl (by decide) (by decide) hQ
  have hK0 := zall_pos hall
  have hx0 : K[0]? = some (zfk T) := by
    obtain ⟨n9, rfl, -⟩ := hall
    obtain ⟨L9, e9⟩ := zgr_pre T 0 n9
    rw [Nat.zero_add] at e9
    rw [e9]; rfl
  refine zJ_iload_n dX1_oddsOf_0 rfl ?_
  refine zJ_if_le (tgt := 17) dX1_oddsOf_1 (by decide) (fun h1 => ?_) (fun h1 => ?_)
  · have hn0 : n = 0 := by have := (nI_leI (a := n) (b := 0) (by omega) (by decide)).mp h1; omega
    rw [show zodds T f n = 0 by simp [zodds, hn0]] at hQ
    refine zJ_lconst (v := 0) dX1_oddsOf_17 (by decide) ?_
    exact zJ_lret dX1_oddsOf_18 rfl (by decide) (by decide) hQ
  · have hn0 : 0 < n := Nat.lt_of_not_le fun h => h1 ((nI_leI (b := 0) (by omega) (by decide)).mpr h)
    refine zJ_aload_n dX1_oddsOf_4 rfl ?_
    refine zJ_iload_n dX1_oddsOf_5 rfl ?_
    refine zJ_iald dX1_oddsOf_6 (by first | rfl | assumption) (vp_in_nI (by omega) (by omega)) ?_
    rw [nI_clamp (show fr < 2 ^ 31 by omega), show w.2.1 r fr = nI (f 0) from hf 0 hn0]
    refine zJ_aload_n dX1_oddsOf_7 rfl ?_
    refine zJ_getr dX1_oddsOf_8 fX1_12 (by first | rfl | assumption) rfl (by first | rfl | assumption) ?_
    refine zJ_geti dX1_oddsOf_11 fX1_214 (by first | rfl | assumption) rfl ?_
    rw [hsc 12 (by decide) (by decide)]
    refine zJ_icmp_eq (tgt := 19) dX1_oddsOf_14 (by decide) (fun h14 => ?_) (fun h14 => ?_)
    · have heq : f 0 = T.1 12 := (nI_eq (by have := hf8 0; omega) (by omega)).mp h14
      refine zJ_ldc2 dX1_oddsOf_19 kX1_147 ?_
      refine zJ_lstore (ls2 := fun x22 => [(4, .long x22), (0, .ref b), (1, .ref r), (2, .int (nI fr)), (3, .int (nI n))]) dX1_oddsOf_22 (by decide) (fun _ => rfl) (fun x22 ex22 => ?_)
      obtain rfl : x22 = (lN 1000000000) := ex22
      refine zJ_iconst (v := 0) dX1_oddsOf_24 (by decide) ?_
      refine zJ_istore (ls2 := fun x25 => [(6, .int x25), (4, .long (lN 1000000000)), (0, .ref b), (1, .ref r), (2, .int (nI fr)), (3, .int (nI n))]) dX1_oddsOf_25 (by decide) (fun _ => rfl) (fun x25 ex25 => ?_)
      obtain rfl : x25 = (nI 0) := ex25
      refine zJ_iconst (v := 1) dX1_oddsOf_27 (by decide) ?_
      refine zJ_istore (ls2 := fun x28 => [(7, .int x28), (6, .int (nI 0)), (4, .long (lN 1000000000)), (0, .ref b), (1, .ref r), (2, .int (nI fr)), (3, .int (nI n))]) dX1_oddsOf_28 (by decide) (fun _ => rfl) (fun x28 ex28 => ?_)
      obtain rfl : x28 = (nI 1) := ex28
      exact L1 1 (by omega) 0 _ _ hx0 (Nat.le_refl _) (Nat.le_refl _) (by
        rw [zodds, if_neg (fun h => h.elim (fun h => by omega) (fun h => h heq))])
    · have hne : f 0 ≠ T.1 12 := fun h => h14 (by rw [h])
      rw [show zodds T f n = 0 by simp only [zodds]; rw [if_pos (Or.inr hne)]] at hQ
      refine zJ_lconst (v := 0) dX1_oddsOf_17 (by decide) ?_
      exact zJ_lret dX1_oddsOf_18 rfl (by decide) (by decide) hQ
set_option maxRecDepth 100000 in
theorem c_Play_casesOf (Δ : zD) (w : zW) (b R m : Nat) (hS : zPs w b R m) (c : Nat → Nat) (hc : ∀ i, i < 96 → w.2.2.1 (b + 16) i = lN (c i)) (p h : Nat) (hp : p < 8) (hh : 1 ≤ h ∧ h ≤ 12) : zMd Δ 0 0 0 true yX1_casesOf mX1_casesOf [.ref b, .int (nI p), .int (nI h)] w (some (.long (lN (c (p * 12 + (h - 1)))))) w := by
  refine zMd.of mfX1_casesOf (Nat.le_of_ble_eq_true rfl) (fun QR hQ => ?_)
  obtain ⟨p0, q0, q1, q2, q3, q4, q5, q6, q7, q8, q9, s11, s12, s13, s14, s15, s16, s17, s18, hSw⟩ := hS
  refine zJ_aload_n dX1_casesOf_0 rfl ?_
  refine zJ_getr dX1_casesOf_1 fX1_18 (by first | rfl | assumption) rfl (by first | rfl | assumption) ?_
  refine zJ_iload_n dX1_casesOf_4 rfl ?_
  refine zJ_bipush (v := 12) dX1_casesOf_5 (by decide) ?_
  refine zJ_imul dX1_casesOf_7 ?_
  refine zJ_iload_n dX1_casesOf_8 rfl ?_
  refine zJ_iadd dX1_casesOf_9 ?_
  refine zJ_iconst (v := 1) dX1_casesOf_10 (by decide) ?_
  refine zJ_isub dX1_casesOf_11 ?_
  rw [show nI p * 12 = nI (p * 12) from na_mul p 12, na_add, show nI (p * 12 + h) - 1 = nI (p * 12 + h - 1) from na_sub (a := p * 12 + h) (b := 1) (by omega), show p * 12 + h - 1 = p * 12 + (h - 1) by omega]
  refine zJ_lald dX1_casesOf_12 (by first | rfl | assumption) (vp_in_nI (by omega) (by omega)) ?_
  rw [nI_clamp (show p * 12 + (h - 1) < 2 ^ 31 by omega), hc _ (by omega)]
  exact zJ_lret dX1_casesOf_13 rfl (by decide) (by decide) hQ
def zca (c : Nat → Nat) (h : Nat) (n : Nat) : Nat := fb_sm (fun p => c (p * 12 + (h - 1))) n
set_option maxRecDepth 100000 in
theorem c_Play_casesAt (Δ : zD) (w : zW) (b R m : Nat) (hS : zPs w b R m) (c : Nat → Nat) (hc : ∀ i, i < 96 → w.2.2.1 (b + 16) i = lN (c i)) (h : Nat) (hh : 1 ≤ h ∧ h ≤ 12) : zMd Δ 1 0 0 true yX1_casesAt mX1_casesAt [.ref b, .int (nI h)] w (some (.long (lN (zca c h 8)))) w := by
  refine zMd.of mfX1_casesAt (Nat.le_of_ble_eq_true rfl) (fun QR hQ => ?_)
  have hS0 := hS
  obtain ⟨p0, q0, q1, q2, q3, q4, q5, q6, q7, q8, q9, s11, s12, s13, s14, s15, s16, s17, s18, hSw⟩ := hS
  have L : ∀ j, j ≤ 8 → zJ Δ mX1_casesAt (zRm 1 0 0) true w.1 QR (fun _ _ => False) 0 0 5 [(4, .int (nI j)), (2, .long (lN (zca c h j))), (0, .ref b), (1, .int (nI h))] [] w := by
    refine zup (fun j hj ih => ?_)
    refine zJ_iload dX1_casesAt_5 rfl ?_
    refine zJ_bipush (v := 8) dX1_casesAt_7 (by decide) ?_
    refine zJ_icmp_ge (tgt := 28) dX1_casesAt_9 (by decide) (fun h9 => ?_) (fun h9 => ?_)
    · have hj9 : j = 8 := by exact Nat.le_antisymm hj ((nI_leI (a := 8) (b := j) (by omega) (by omega)).mp h9)
      subst hj9
      refine zJ_lload_n dX1_casesAt_28 rfl ?_
      exact zJ_lret dX1_casesAt_29 rfl (by decide) (by decide) hQ
    · have hj9 : j < 8 := Nat.lt_of_not_le fun hq9 => h9 (by exact (nI_leI (a := 8) (b := j) (by omega) (by omega)).mpr hq9)
      refine zJ_lload_n dX1_casesAt_12 rfl ?_
      refine zJ_aload_n dX1_casesAt_13 rfl ?_
      refine zJ_iload dX1_casesAt_14 rfl ?_
      refine zJ_iload_n dX1_casesAt_16 rfl ?_
      refine zJ_cV2 dX1_casesAt_17 sX1_208 mfX1_casesOf (c_Play_casesOf Δ w b R m hS0 c hc j h hj9 hh) (by first | rfl | assumption) rfl (Nat.le_of_ble_eq_true rfl) (by decide) (by decide) ?_
      refine zJ_ladd dX1_casesAt_20 ?_
      refine zJ_lstore_n (ls2 := fun x21 => [(2, .long x21), (4, .int (nI j)), (0, .ref b), (1, .int (nI h))]) dX1_casesAt_21 (by decide) (fun _ => rfl) (fun x21 ex21 => ?_)
      obtain rfl : x21 = (lN (zca c h (j + 1))) := by rw [ex21, lN_add]; rfl
      refine zJ_iinc (ls2 := fun x22 => [(4, .int x22), (2, .long (lN (zca c h (j + 1)))), (0, .ref b), (1, .int (nI h))]) dX1_casesAt_22 rfl (by decide) (fun _ => rfl) (fun x22 ex22 => ?_)
      refine zJ_goto (tgt := 5) dX1_casesAt_25 (by decide) ?_
      refine zJ_ls [(4, .int x22), (2, .long (lN (zca c h (j + 1)))), (0, .ref b), (1, .int (nI h))] (by simp) ?_
      rw [ex22, show nI j + Int32.ofInt 1 = nI (j + 1) from nI_1 _]
      exact ih (j + 1) (by omega) (by omega)
  refine zJ_lconst (v := 0) dX1_casesAt_0 (by decide) ?_
  refine zJ_lstore_n (ls2 := fun x1 => [(2, .long x1), (0, .ref b), (1, .int (nI h))]) dX1_casesAt_1 (by decide) (fun _ => rfl) (fun x1 ex1 => ?_)
  obtain rfl : x1 = (lN 0) := ex1
  refine zJ_iconst (v := 0) dX1_casesAt_2 (by decide) ?_
  refine zJ_istore (ls2 := fun x3 => [(4, .int x3), (2, .long (lN 0)), (0, .ref b), (1, .int (nI h))]) dX1_casesAt_3 (by decide) (fun _ => rfl) (fun x3 ex3 => ?_)
  obtain rfl : x3 = (nI 0) := ex3
  exact L 0 (Nat.zero_le _)
def zla (c : Nat → Nat) (n : Nat) : Nat := fb_sm (fun h => (h + 1) * zca c (h + 1) 8) n
set_option maxRecDepth 100000 in
theorem c_Play_lengthOfAll (Δ : zD) (w : zW) (b R m : Nat) (hS : zPs w b R m) (c : Nat → Nat) (hc : ∀ i, i < 96 → w.2.2.1 (b + 16) i = lN (c i)) : zMd Δ 2 0 0 true yX1_lengthOfAll mX1_lengthOfAll [.ref b] w (some (.long (lN (zla c 12)))) w := by
  refine zMd.of mfX1_lengthOfAll (Nat.le_of_ble_eq_true rfl) (fun QR hQ => ?_)
  have hS0 := hS
  obtain ⟨p0, q0, q1, q2, q3, q4, q5, q6, q7, q8, q9, s11, s12, s13, s14, s15, s16, s17, s18, hSw⟩ := hS
  have L : ∀ j, j ≤ 12 → zJ Δ mX1_lengthOfAll (zRm 2 0 0) true w.1 QR (fun _ _ => False) 0 0 4 [(3, .int (nI (j + 1))), (1, .long (lN (zla c j))), (0, .ref b)] [] w := by
    refine zup (fun j hj ih => ?_)
    refine zJ_iload_n dX1_lengthOfAll_4 rfl ?_
    refine zJ_bipush (v := 12) dX1_lengthOfAll_5 (by decide) ?_
    refine zJ_icmp_gt (tgt := 27) dX1_lengthOfAll_7 (by decide) (fun h7 => ?_) (fun h7 => ?_)
    · have hj9 : j = 12 := by have := (nI_ltI (a := 12) (b := j + 1) (by decide) (by omega)).mp h7; omega
      subst hj9
      refine zJ_lload_n dX1_lengthOfAll_27 rfl ?_
      exact zJ_lret dX1_lengthOfAll_28 rfl (by decide) (by decide) hQ
    · have hj9 : j < 12 := Nat.lt_of_not_le fun hq => h7 ((nI_ltI (a := 12) (by decide) (by omega)).mpr (by omega))
      refine zJ_lload_n dX1_lengthOfAll_10 rfl ?_
      refine zJ_iload_n dX1_lengthOfAll_11 rfl ?_
      refine zJ_i2l dX1_lengthOfAll_12 ?_
      rw [nI_l (by omega)]
      refine zJ_aload_n dX1_lengthOfAll_13 rfl ?_
      refine zJ_iload_n dX1_lengthOfAll_14 rfl ?_
      refine zJ_cV1 dX1_lengthOfAll_15 sX1_211 mfX1_casesAt (c_Play_casesAt Δ w b R m hS0 c hc (j + 1) (by omega)) (by first | rfl | assumption) rfl (Nat.le_of_ble_eq_true rfl) (by decide) (by decide) ?_
      refine zJ_lmul dX1_lengthOfAll_18 ?_
      refine zJ_ladd dX1_lengthOfAll_19 ?_
      refine zJ_lstore_n (ls2 := fun x20 => [(1, .long x20), (3, .int (nI (j + 1))), (0, .ref b)]) dX1_lengthOfAll_20 (by decide) (fun _ => rfl) (fun x20 ex20 => ?_)
      obtain rfl : x20 = (lN (zla c (j + 1))) := by rw [ex20, lN_mul, lN_add]; rfl
      refine zJ_iinc (ls2 := fun x21 => [(3, .int x21), (1, .long (lN (zla c (j + 1)))), (0, .ref b)]) dX1_lengthOfAll_21 rfl (by decide) (fun _ => rfl) (fun x21 ex21 => ?_)
      refine zJ_goto (tgt := 4) dX1_lengthOfAll_24 (by decide) ?_
      refine zJ_ls [(3, .int x21), (1, .long (lN (zla c (j + 1)))), (0, .ref b)] (by simp) ?_
      rw [ex21, show nI (j + 1) + Int32.ofInt 1 = nI ((j + 1) + 1) from nI_1 _]
      exact ih (j + 1) (by omega) (by omega)
  refine zJ_lconst (v := 0) dX1_lengthOfAll_0 (by decide) ?_
  refine zJ_lstore_n (ls2 := fun x1 => [(1, .long x1), (0, .ref b)]) dX1_lengthOfAll_1 (by decide) (fun _ => rfl) (fun x1 ex1 => ?_)
  obtain rfl : x1 = (lN 0) := ex1
  refine zJ_iconst (v := 1) dX1_lengthOfAll_2 (by decide) ?_
  refine zJ_istore_n (ls2 := fun x3 => [(3, .int x3), (1, .long (lN 0)), (0, .ref b)]) dX1_lengthOfAll_3 (by decide) (fun _ => rfl) (fun x3 ex3 => ?_)
  obtain rfl : x3 = (nI 1) := ex3
  exact L 0 (Nat.zero_le _)
