theorem zli_hi {T : zTo} (hT : zTok T) {k : zKy} (hk : k.1 < 8) {e : Nat → Nat} {g : Nat → Nat → Int} : ∀ d, T.1 0 + d ≤ 8 → zli T k e g (T.1 0 + d) = zli T k e g (T.1 0)
  | 0, _ => rfl
  | d + 1, h => by
    rw [← Nat.add_assoc]
    simp only [zli]
    rw [zmay_no hT hk (by omega) (by omega), if_neg (by decide)]
    exact zli_hi hT hk d (by omega)
set_option maxRecDepth 100000 in
theorem zMo_nmT (Δ : zD) (w : zW) (T : zTo) (K : List zKy) (hK : zMK w T K) (hT : zTok T) (hU : zUm w T K 0) (k : zKy) (hk0 : k = zfk T) (v1 : Int32) {QR : Option Value → zW → Prop} (hQ : QR (some (.long (lZ (znm T)))) w) : zJ Δ mX9_named (zRm 5 0 0) true w.1 QR (fun _ _ => False) 0 0 48 [(0, .ref 100), (1, .int v1)] [] w := by
  have hK0 := hK
  obtain ⟨hA, hN, hall, hch⟩ := hK
  have hA0 := hA
  obtain ⟨hM, m1, m3, m4, m5, m6, m7, m46, m9, m47, mso, mnu, mwt⟩ := hA
  have hT0 := hT
  obtain ⟨hp0, hp5, hp6, hp7, hp8, hp9, hp10, hp11, hp12, hp13, hpp, hpw⟩ := hT
  have hx : K[0]? = some k := by rw [hk0]; exact zall_0 hall
  obtain ⟨hk, hkp⟩ := hN.2.2.2 k (List.mem_iff_getElem?.mpr ⟨0, hx⟩)
  have hk1 := hk.1
  have hC : zMC w T K k := zUm.ch (x := 0) (fun x k _ h2 => hU x k (Nat.zero_le _) h2) hall hx
  have hwb : zwS T k ≤ 8 * 99 := fb_sm_bound (fun y hy => by
    try simp only
    split
    · exact (hpw k.1 y hk1 (by omega)).1
    · omega)
  have hwr : ∀ y, y < 8 → zmay T k y = true → -1000000000 ≤ zwo T k (zce T k) (zcg T k) y ∧ zwo T k (zce T k) (zcg T k) y ≤ 1000000000 := fun y hy hm => zwo_rng hT0 (zce_le hT0 hk hy hm) (zcg_rng hT0 hk hy hm)
  by_cases hmb : zmb T k = 0
  · rw [show znm T = -1 by simp only [znm, ← hk0, zli_none hmb 8 (Nat.le_refl 8)]] at hQ
    refine zJ_aload_n dX9_named_48 rfl ?_
    refine zJ_iconst (v := 0) dX9_named_49 (by decide) ?_
    refine zJ_cV1 dX9_named_50 sX9_386 mfX9_weightsOf (c_Mo_weightsOf Δ w T K hK0 hT0 0 k hx) (by first | rfl | assumption | exact hM.at (by decide) (by decide)) rfl (Nat.le_of_ble_eq_true rfl) (by decide) (by decide) ?_
    rw [zwS_0 hmb]
    refine zJ_if_ne (tgt := 60) dX9_named_53 (by decide) (fun h9 => False.elim (by revert h9; decide)) (fun _ => ?_)
    refine zJ_ldc2 dX9_named_56 kX9_433 ?_
    exact zJ_lret dX9_named_59 rfl (by decide) (by decide) hQ
  · have hwp := zwS_pos hmb
    have hne : ¬ nI (zwS T k) = 0 := fun h => absurd ((nI_eq (b := 0) (by omega) (by decide)).mp h) (by omega)
    have hs8 : zli T k (zce T k) (zcg T k) 8 = zli T k (zce T k) (zcg T k) (T.1 0) := by
      have := zli_hi hT0 hk1 (e := zce T k) (g := zcg T k) (8 - T.1 0) (by omega)
      rwa [show T.1 0 + (8 - T.1 0) = 8 by omega] at this
    have L : ∀ j, j ≤ T.1 0 → ∀ (f : Int32) (z : Int), ((zli T k (zce T k) (zcg T k) j = none ∧ f = 0 ∧ z = 0) ∨ ∃ q, zli T k (zce T k) (zcg T k) j = some q ∧ f = 1 ∧ z = zwo T k (zce T k) (zcg T k) q) → zJ Δ mX9_named (zRm 5 0 0) true w.1 QR (fun _ _ => False) 0 0 68 [(5, .int (nI j)), (4, .int f), (2, .long (lZ z)), (0, .ref 100), (1, .int v1)] [] w := by
      refine zup (fun j hj ih => ?_)
      intro f z hs
      by_cases hj0 : j = T.1 0
      · rw [hj0, ← hs8] at hs
        rcases hs with ⟨hl, -, -⟩ | ⟨q, hl, rfl, rfl⟩
        · obtain ⟨y, hy, hm⟩ := zmb_0 hmb
          exact absurd hl (zli_some T k _ _ 8 y hy hm)
        · obtain ⟨hq8, hqm⟩ := zli_may _ _ _ _ _ _ hl
          have hrg := hwr q hq8 hqm
          have hzn : znm T = if 1000 * (T.1 5 : Int) - zwo T k (zce T k) (zcg T k) q < 0 then 0 else (1000 * (T.1 5 : Int) - zwo T k (zce T k) (zcg T k) q).tdiv 1000 + 1 := by simp only [znm, ← hk0, hl]
          rw [hzn] at hQ
          refine zJ_iload dX9_named_68 rfl ?_
          refine zJ_aload_n dX9_named_70 rfl ?_
          refine zJ_getiN dX9_named_71 fX9_298 (by first | rfl | assumption | exact hM.at (by decide) (by decide)) rfl m1 ?_
          refine zJ_icmp_ge (tgt := 125) dX9_named_74 (by decide) (fun h74 => ?_) (fun h9 => absurd ((nI_leI (by omega) (by omega)).mpr (by omega)) h9)
          refine zJ_ldc2 dX9_named_125 kX9_370 ?_
          refine zJ_aload_n dX9_named_128 rfl ?_
          refine zJ_getiN dX9_named_129 fX9_7 (by first | rfl | assumption | exact hM.at (by decide) (by decide)) rfl m3 ?_
          refine zJ_i2l dX9_named_132 ?_
          rw [nI_l (show T.1 5 < 2 ^ 31 by omega), show (1000 : Int64) = lZ 1000 from rfl, lZ_n]
          refine zJ_lmul dX9_named_133 ?_
          rw [lZ_mul]
          refine zJ_lstore (ls2 := fun x134 => [(5, .long x134), (4, .int 1), (2, .long (lZ (zwo T k (zce T k) (zcg T k) q))), (0, .ref 100), (1, .int v1)]) dX9_named_134 (by decide) (fun _ => rfl) (fun x134 ex134 => ?_)
          obtain rfl : x134 = (lZ (1000 * (T.1 5 : Int))) := ex134
          refine zJ_lload_n dX9_named_136 rfl ?_
          refine zJ_lload dX9_named_137 rfl ?_
          refine zJ_lc_le (tgt := 147) dX9_named_139 dX9_named_140 (by decide) (fun h140 => ?_) (fun h140 => ?_)
          · have hle : zwo T k (zce T k) (zcg T k) q ≤ 1000 * (T.1 5 : Int) := (lZ_le (by omega) (by omega) (by omega) (by omega)).mp h140
            refine zJ_lload dX9_named_147 rfl ?_
            refine zJ_lload_n dX9_named_149 rfl ?_
            refine zJ_lsub dX9_named_150 ?_
            rw [lZ_sub]
            refine zJ_ldc2 dX9_named_151 kX9_370 ?_
            rw [show (1000 : Int64) = lZ 1000 from rfl]
            refine zJ_ldiv dX9_named_154 (by decide) ?_
            rw [lZ_div (by omega) (by omega) (by decide) (by decide)]
            refine zJ_lconst (v := 1) dX9_named_155 (by decide) ?_
            refine zJ_ladd dX9_named_156 ?_
            rw [if_neg (show ¬ _ < (0 : Int) by omega)] at hQ
            rw [show (1 : Int64) = lZ 1 from rfl, lZ_add]
            exact zJ_lret dX9_named_157 rfl (by decide) (by decide) hQ
          · have hle : ¬ zwo T k (zce T k) (zcg T k) q ≤ 1000 * (T.1 5 : Int) := fun h => h140 ((lZ_le (by omega) (by omega) (by omega) (by omega)).mpr h)
            refine zJ_lconst (v := 0) dX9_named_143 (by decide) ?_
            refine zJ_goto (tgt := 157) dX9_named_144 (by decide) ?_
            rw [if_pos (show _ < (0 : Int) by omega)] at hQ
            exact zJ_lret dX9_named_157 rfl (by decide) (by decide) hQ
      · have hj9 : j < T.1 0 := by omega
        cases hmy : zmay T k j with
        | false =>
          have e1 : zli T k (zce T k) (zcg T k) (j + 1) = zli T k (zce T k) (zcg T k) j := by simp only [zli]; rw [hmy, if_neg (by decide)]
          have hch9 : w.2.1 143 j = -1 := by have := hK0.n hx (show j < 8 by omega) hmy; rwa [Nat.zero_mul, Nat.zero_add] at this
          refine zJ_iload dX9_named_68 rfl ?_
          refine zJ_aload_n dX9_named_70 rfl ?_
          refine zJ_getiN dX9_named_71 fX9_298 (by first | rfl | assumption | exact hM.at (by decide) (by decide)) rfl m1 ?_
          refine zJ_icmp_ge (tgt := 125) dX9_named_74 (by decide) (fun h9 => absurd h9 (fun h => absurd ((nI_leI (by omega) (by omega)).mp h) (by omega))) (fun h74 => ?_)
          refine zJ_aload_n dX9_named_77 rfl ?_
          refine zJ_getr (j := 143) dX9_named_78 fX9_63 (by first | rfl | assumption | exact hM.at (by decide) (by decide)) rfl (by first | rfl | assumption | exact hM.rf (by decide) rfl) ?_
          refine zJ_iload dX9_named_81 rfl ?_
          refine zJ_ialdN (i := j) (v := (-1)) dX9_named_83 (by first | rfl | assumption | exact hM.at (by decide) (by decide)) rfl (by omega) (by decide) hch9 ?_
          refine zJ_iconst (v := (-1)) dX9_named_84 (by decide) ?_
          refine zJ_icmp_eq (tgt := 119) dX9_named_85 (by decide) (fun _ => ?_) (fun h9 => False.elim (by revert h9; decide))
          refine zJ_iinc (ls2 := fun x119 => [(5, .int x119), (4, .int f), (2, .long (lZ z)), (0, .ref 100), (1, .int v1)]) dX9_named_119 rfl (by decide) (fun _ => rfl) (fun x119 ex119 => ?_)
          refine zJ_goto (tgt := 68) dX9_named_122 (by decide) ?_
          refine zJ_ls [(5, .int x119), (4, .int f), (2, .long (lZ z)), (0, .ref 100), (1, .int v1)] (by simp) ?_
          rw [ex119, show nI j + Int32.ofInt 1 = nI (j + 1) from nI_1 _]
          exact ih (j + 1) (by omega) (by omega) f z (by rw [e1]; exact hs)
        | true =>
          obtain ⟨c9, hc1, hc2, hc3, hc4, hc5⟩ := hK0.c hx (show j < 8 by omega) hmy
          rw [Nat.zero_mul, Nat.zero_add] at hc2
          have hrj := hwr j (by omega) hmy
          have CWo := c_Mo_worth Δ w T K hK0 hT0 0 k hx hC j (by omega) hmy
          rcases hs with ⟨hl, rfl, rfl⟩ | ⟨q, hl, rfl, rfl⟩
          · have e1 : zli T k (zce T k) (zcg T k) (j + 1) = some j := by simp only [zli]; rw [hmy, if_pos rfl, hl]
            refine zJ_iload dX9_named_68 rfl ?_
            refine zJ_aload_n dX9_named_70 rfl ?_
            refine zJ_getiN dX9_named_71 fX9_298 (by first | rfl | assumption | exact hM.at (by decide) (by decide)) rfl m1 ?_
            refine zJ_icmp_ge (tgt := 125) dX9_named_74 (by decide) (fun h9 => absurd h9 (fun h => absurd ((nI_leI (by omega) (by omega)).mp h) (by omega))) (fun h74 => ?_)
            refine zJ_aload_n dX9_named_77 rfl ?_
            refine zJ_getr (j := 143) dX9_named_78 fX9_63 (by first | rfl | assumption | exact hM.at (by decide) (by decide)) rfl (by first | rfl | assumption | exact hM.rf (by decide) rfl) ?_
            refine zJ_iload dX9_named_81 rfl ?_
            refine zJ_ialdN (i := j) (v := (nI c9)) dX9_named_83 (by first | rfl | assumption | exact hM.at (by decide) (by decide)) rfl (by omega) (by decide) hc2 ?_
            refine zJ_iconst (v := (-1)) dX9_named_84 (by decide) ?_
            refine zJ_icmp_eq (tgt := 119) dX9_named_85 (by decide) (fun h9 => absurd h9 (nI_m1 (show c9 < 2 ^ 31 by omega))) (fun h85 => ?_)
            refine zJ_iload dX9_named_88 rfl ?_
            refine zJ_if_eq (tgt := 108) dX9_named_90 (by decide) (fun _ => ?_) (fun h9 => False.elim (by revert h9; decide))
            refine zJ_aload_n dX9_named_108 rfl ?_
            refine zJ_iconst (v := 0) dX9_named_109 (by decide) ?_
            refine zJ_iload dX9_named_110 rfl ?_
            refine zJ_cV2 dX9_named_112 sX9_392 mfX9_worth CWo (by first | rfl | assumption | exact hM.at (by decide) (by decide)) rfl (Nat.le_of_ble_eq_true rfl) (by decide) (by decide) ?_
            refine zJ_lstore_n (ls2 := fun x115 => [(2, .long x115), (5, .int (nI j)), (4, .int 0), (0, .ref 100), (1, .int v1)]) dX9_named_115 (by decide) (fun _ => rfl) (fun x115 ex115 => ?_)
            refine zJ_iconst (v := 1) dX9_named_116 (by decide) ?_
            refine zJ_istore (ls2 := fun x117 => [(4, .int x117), (2, .long x115), (5, .int (nI j)), (0, .ref 100), (1, .int v1)]) dX9_named_117 (by decide) (fun _ => rfl) (fun x117 ex117 => ?_)
            refine zJ_iinc (ls2 := fun x119 => [(5, .int x119), (4, .int x117), (2, .long x115), (0, .ref 100), (1, .int v1)]) dX9_named_119 rfl (by decide) (fun _ => rfl) (fun x119 ex119 => ?_)
            refine zJ_goto (tgt := 68) dX9_named_122 (by decide) ?_
            refine zJ_ls [(5, .int x119), (4, .int x117), (2, .long x115), (0, .ref 100), (1, .int v1)] (by simp) ?_
            rw [ex119, ex117, ex115, show nI j + Int32.ofInt 1 = nI (j + 1) from nI_1 _]
            exact ih (j + 1) (by omega) (by omega) 1 (zwo T k (zce T k) (zcg T k) j) (Or.inr ⟨j, e1, rfl, rfl⟩)
          · obtain ⟨hq8, hqm⟩ := zli_may _ _ _ _ _ _ hl
            have hrg := hwr q (by omega) hqm
            refine zJ_iload dX9_named_68 rfl ?_
            refine zJ_aload_n dX9_named_70 rfl ?_
            refine zJ_getiN dX9_named_71 fX9_298 (by first | rfl | assumption | exact hM.at (by decide) (by decide)) rfl m1 ?_
            refine zJ_icmp_ge (tgt := 125) dX9_named_74 (by decide) (fun h9 => absurd h9 (fun h => absurd ((nI_leI (by omega) (by omega)).mp h) (by omega))) (fun h74 => ?_)
            refine zJ_aload_n dX9_named_77 rfl ?_
            refine zJ_getr (j := 143) dX9_named_78 fX9_63 (by first | rfl | assumption | exact hM.at (by decide) (by decide)) rfl (by first | rfl | assumption | exact hM.rf (by decide) rfl) ?_
            refine zJ_iload dX9_named_81 rfl ?_
            refine zJ_ialdN (i := j) (v := (nI c9)) dX9_named_83 (by first | rfl | assumption | exact hM.at (by decide) (by decide)) rfl (by omega) (by decide) hc2 ?_
            refine zJ_iconst (v := (-1)) dX9_named_84 (by decide) ?_
            refine zJ_icmp_eq (tgt := 119) dX9_named_85 (by decide) (fun h9 => absurd h9 (nI_m1 (show c9 < 2 ^ 31 by omega))) (fun h85 => ?_)
            refine zJ_iload dX9_named_88 rfl ?_
            refine zJ_if_eq (tgt := 108) dX9_named_90 (by decide) (fun h9 => False.elim (by revert h9; decide)) (fun _ => ?_)
            refine zJ_aload_n dX9_named_93 rfl ?_
            refine zJ_iconst (v := 0) dX9_named_94 (by decide) ?_
            refine zJ_iload dX9_named_95 rfl ?_
            refine zJ_cV2 dX9_named_97 sX9_392 mfX9_worth CWo (by first | rfl | assumption | exact hM.at (by decide) (by decide)) rfl (Nat.le_of_ble_eq_true rfl) (by decide) (by decide) ?_
            refine zJ_lload_n dX9_named_100 rfl ?_
            refine zJ_lc_gt (tgt := 108) dX9_named_101 dX9_named_102 (by decide) (fun h102 => ?_) (fun h102 => ?_)
            · have hlt : zwo T k (zce T k) (zcg T k) q < zwo T k (zce T k) (zcg T k) j := (lZ_lt (by omega) (by omega) (by omega) (by omega)).mp h102
              have e1 : zli T k (zce T k) (zcg T k) (j + 1) = some j := by simp only [zli, hmy, if_true, hl]; rw [if_pos hlt]
              refine zJ_aload_n dX9_named_108 rfl ?_
              refine zJ_iconst (v := 0) dX9_named_109 (by decide) ?_
              refine zJ_iload dX9_named_110 rfl ?_
              refine zJ_cV2 dX9_named_112 sX9_392 mfX9_worth CWo (by first | rfl | assumption | exact hM.at (by decide) (by decide)) rfl (Nat.le_of_ble_eq_true rfl) (by decide) (by decide) ?_
              refine zJ_lstore_n (ls2 := fun x115 => [(2, .long x115), (5, .int (nI j)), (4, .int 1), (0, .ref 100), (1, .int v1)]) dX9_named_115 (by decide) (fun _ => rfl) (fun x115 ex115 => ?_)
              refine zJ_iconst (v := 1) dX9_named_116 (by decide) ?_
              refine zJ_istore (ls2 := fun x117 => [(4, .int x117), (2, .long x115), (5, .int (nI j)), (0, .ref 100), (1, .int v1)]) dX9_named_117 (by decide) (fun _ => rfl) (fun x117 ex117 => ?_)
              refine zJ_iinc (ls2 := fun x119 => [(5, .int x119), (4, .int x117), (2, .long x115), (0, .ref 100), (1, .int v1)]) dX9_named_119 rfl (by decide) (fun _ => rfl) (fun x119 ex119 => ?_)
              refine zJ_goto (tgt := 68) dX9_named_122 (by decide) ?_
              refine zJ_ls [(5, .int x119), (4, .int x117), (2, .long x115), (0, .ref 100), (1, .int v1)] (by simp) ?_
              rw [ex119, ex117, ex115, show nI j + Int32.ofInt 1 = nI (j + 1) from nI_1 _]
              exact ih (j + 1) (by omega) (by omega) 1 (zwo T k (zce T k) (zcg T k) j) (Or.inr ⟨j, e1, rfl, rfl⟩)
            · have hlt : ¬ zwo T k (zce T k) (zcg T k) q < zwo T k (zce T k) (zcg T k) j := fun h => h102 ((lZ_lt (by omega) (by omega) (by omega) (by omega)).mpr h)
              have e1 : zli T k (zce T k) (zcg T k) (j + 1) = some q := by simp only [zli, hmy, if_true, hl]; rw [if_neg hlt]
              refine zJ_goto (tgt := 119) dX9_named_105 (by decide) ?_
              refine zJ_iinc (ls2 := fun x119 => [(5, .int x119), (4, .int 1), (2, .long (lZ (zwo T k (zce T k) (zcg T k) q))), (0, .ref 100), (1, .int v1)]) dX9_named_119 rfl (by decide) (fun _ => rfl) (fun x119 ex119 => ?_)
              refine zJ_goto (tgt := 68) dX9_named_122 (by decide) ?_
              refine zJ_ls [(5, .int x119), (4, .int 1), (2, .long (lZ (zwo T k (zce T k) (zcg T k) q))), (0, .ref 100), (1, .int v1)] (by simp) ?_
              rw [ex119, show nI j + Int32.ofInt 1 = nI (j + 1) from nI_1 _]
              exact ih (j + 1) (by omega) (by omega) 1 (zwo T k (zce T k) (zcg T k) q) (Or.inr ⟨q, e1, rfl, rfl⟩)
    refine zJ_aload_n dX9_named_48 rfl ?_
    refine zJ_iconst (v := 0) dX9_named_49 (by decide) ?_
    refine zJ_cV1 dX9_named_50 sX9_386 mfX9_weightsOf (c_Mo_weightsOf Δ w T K hK0 hT0 0 k hx) (by first | rfl | assumption | exact hM.at (by decide) (by decide)) rfl (Nat.le_of_ble_eq_true rfl) (by decide) (by decide) ?_
    refine zJ_if_ne (tgt := 60) dX9_named_53 (by decide) (fun h53 => ?_) (fun h9 => absurd h9 hne)
    refine zJ_lconst (v := 0) dX9_named_60 (by decide) ?_
    refine zJ_lstore_n (ls2 := fun x61 => [(2, .long x61), (0, .ref 100), (1, .int v1)]) dX9_named_61 (by decide) (fun _ => rfl) (fun x61 ex61 => ?_)
    refine zJ_iconst (v := 0) dX9_named_62 (by decide) ?_
    refine zJ_istore (ls2 := fun x63 => [(4, .int x63), (2, .long x61), (0, .ref 100), (1, .int v1)]) dX9_named_63 (by decide) (fun _ => rfl) (fun x63 ex63 => ?_)
    refine zJ_iconst (v := 0) dX9_named_65 (by decide) ?_
    refine zJ_istore (ls2 := fun x66 => [(5, .int x66), (4, .int x63), (2, .long x61), (0, .ref 100), (1, .int v1)]) dX9_named_66 (by decide) (fun _ => rfl) (fun x66 ex66 => ?_)
    refine zJ_ls [(5, .int x66), (4, .int x63), (2, .long x61), (0, .ref 100), (1, .int v1)] (by simp) ?_
    rw [ex66, ex63, ex61]
    exact L 0 (Nat.zero_le _) 0 0 (Or.inl ⟨rfl, rfl, rfl⟩)
theorem zMa.nm {c : zW} {U : zTo} {p s v : Nat} (h : zMa c U) : zMa (zsi (zsi c 148 p (nI s)) 149 p (nI v)) (zTn1 (zTq (zTs U 12 p) p s) p v) := by
  obtain ⟨h0, h1, h2, h3, h4, h5, h6, h7, h8, h9, h10, h11, h12⟩ := h
  refine ⟨h0, h1, h2, h3, h4, h5, h6, h7, h8, h9, fun q hq => ?_, fun q hq => ?_, fun a b ha hb => h12 a b ha hb⟩
  · rw [zsi_o (by decide)]
    simp only [zsi, zTn1, zTq, zTs, true_and]
    by_cases hqp : q = p
    · simp only [hqp, if_true]
    · simp only [hqp, if_false]
      exact h10 q hq
  · simp only [zsi, zTn1, zTq, zTs, true_and]
    by_cases hqp : q = p
    · simp only [hqp, if_true]
    · simp only [hqp, if_false]
      rw [if_neg (by omega)]
      exact h11 q hq
set_option maxRecDepth 100000 in
theorem c_Mo_named (Δ : zD) (w : zW) (U : zTo) (hMu : zMu w U) (hU : zTok U) (h13 : U.1 13 = 0) (x : Int32) : zMp Δ 5 yX9_named mX9_named [.ref 100, .int x] w (fun r c => zFM zScr w c ∧ ((¬ (∃ p, p < U.1 0 ∧ x = nI p) ∧ c.2.1 100 0 = 1) ∨ (∃ p, p < U.1 0 ∧ x = nI p ∧ ((¬ zfit (zTnm U p) 20000 ∧ c.2.1 100 0 = 2) ∨ (zfit (zTnm U p) 20000 ∧ c.2.1 100 0 = 0 ∧ r = some (.long (lZ (znm (zTnm U p))))))))) := by
  refine zMp.of mfX9_named (Nat.le_of_ble_eq_true rfl) (fun QR hQ => ?_)
  have hMu0 := hMu
  obtain ⟨hM, u1, u2, u3, u4, u5, u6, u7, u8, u9, uso, unu, uwt⟩ := hMu
  have hp8 := hU.1
  have hU0 := hU
  have M0 : zMs (zsi w 100 0 0) := hM
  have z0 : (zsi w 100 0 0).2.1 100 0 = 0 := by simp [zsi]
  have hMu1 : zMu (zsi w 100 0 0) U := hMu0.fm (zFM.i (l := [0]) (by decide)) (by decide)
  have hp1 : (zsi w 100 0 0).2.1 100 1 = nI (U.1 0) := hMu1.2.1
  by_cases hx : ∃ p, p < U.1 0 ∧ x = nI p
  · obtain ⟨p, hp, rfl⟩ := hx
    have hT9 : zTok (zTnm U p) := (hU.s (by omega)).q hp (by decide) (by decide) (by decide)
    have hpos : 0 < (zTnm U p).1 0 := Nat.lt_of_le_of_lt (Nat.zero_le p) hp
    refine zJ_aload_n dX9_named_0 rfl ?_
    refine zJ_iconst (v := 0) dX9_named_1 (by decide) ?_
    refine zJ_puti dX9_named_2 fX9_170 (fun q h => by cases h; rfl) (by first | rfl | assumption | exact M0.at (by decide) (by decide)) rfl rfl rfl ?_
    refine zJ_aload_n dX9_named_5 rfl ?_
    refine zJ_iload_n dX9_named_6 rfl ?_
    refine zJ_cV1 dX9_named_7 sX9_339 mfX9_isPerson ((c_Mo_isPerson Δ (zsi w 100 0 0) M0 z0 (nI p) (U.1 0) hp1 hp8).1 ⟨p, hp, rfl⟩) (by first | rfl | assumption | exact M0.at (by decide) (by decide)) rfl (Nat.le_of_ble_eq_true rfl) (by decide) (by decide) ?_
    refine zJ_if_ne (tgt := 15) dX9_named_10 (by decide) (fun _ => ?_) (fun h9 => False.elim (by revert h9; decide))
    refine zJ_aload_n dX9_named_15 rfl ?_
    refine zJ_eV0 dX9_named_16 sX9_413 mfX9_asTold (c_Mo_asTold Δ (zsi w 100 0 0) U hMu1 hU0 h13) (M0.at (by decide) (by decide)) rfl (Nat.le_of_ble_eq_true rfl) (by decide) (by decide) (fun r c hP => ?_)
    obtain ⟨rfl, hfc, hAc⟩ := hP
    have Mc : zMs c := hAc.1
    have c0 : c.2.1 100 0 = 0 := (hfc.at (by decide)).trans z0
    refine zJ_aload_n dX9_named_19 rfl ?_
    refine zJ_getr (j := 148) dX9_named_20 fX9_70 (by first | rfl | assumption | exact Mc.at (by decide) (by decide)) rfl (by first | rfl | assumption | exact Mc.rf (by decide) rfl) ?_
    refine zJ_iload_n dX9_named_23 rfl ?_
    refine zJ_iconst (v := 3) dX9_named_24 (by decide) ?_
    refine zJ_iastN (i := p) dX9_named_25 (by first | rfl | assumption | exact Mc.at (by decide) (by decide)) rfl (by omega) (by decide) ?_
    refine zJ_aload_n dX9_named_26 rfl ?_
    refine zJ_getr (j := 149) dX9_named_27 fX9_73 (by first | rfl | assumption | exact Mc.at (by decide) (by decide)) rfl (by first | rfl | assumption | exact Mc.rf (by decide) rfl) ?_
    refine zJ_iload_n dX9_named_30 rfl ?_
    refine zJ_iconst (v := 0) dX9_named_31 (by decide) ?_
    refine zJ_iastN (i := p) dX9_named_32 (by first | rfl | assumption | exact Mc.at (by decide) (by decide)) rfl (by omega) (by decide) ?_
    have hA2 : zMa (zsi (zsi c 148 p 3) 149 p 0) (zTnm U p) := hAc.nm (p := p) (s := 3) (v := 0)
    have hf2 : zFM [48, 49] c (zsi (zsi c 148 p 3) 149 p 0) := (zFM.i (Or.inr (by decide))).tr (zFM.i (Or.inr (by decide)))
    have Mc2 : zMs (zsi (zsi c 148 p 3) 149 p 0) := hA2.1
    refine zJ_aload_n dX9_named_33 rfl ?_
    refine zJ_aload_n dX9_named_34 rfl ?_
    refine zJ_iload_n dX9_named_35 rfl ?_
    refine zJ_eV1 dX9_named_36 sX9_416 mfX9_asks (c_Mo_asks Δ (zsi (zsi c 148 p 3) 149 p 0) (zTnm U p) hA2 hT9 hpos) (Mc.at (by decide) (by decide)) rfl (Nat.le_of_ble_eq_true rfl) (by decide) (by decide) (fun r d hP => ?_)
    obtain ⟨hfd, hP⟩ := hP
    have Md : zMs d := Mc2.fm hfd
    have d0 : d.2.1 100 0 = 0 := (hfd.at (by decide)).trans ((hf2.at (by decide)).trans c0)
    have hfa : zFM zScr w d := ((zFM.t0.tr (hfc.mono (by decide))).tr (hf2.mono (by decide))).tr (hfd.mono (by decide))
    rcases hP with ⟨rfl, K, hKd, hUd⟩ | ⟨rfl, hno⟩
    · refine zJ_iconst (v := 2) dX9_named_39 (by decide) ?_
      refine zJ_cV2 dX9_named_40 sX9_291 mfX9_right (c_Mo_right1 Δ d Md d0 2) (by first | rfl | assumption | exact Md.at (by decide) (by decide)) rfl (Nat.le_of_ble_eq_true rfl) (by decide) (by decide) ?_
      refine zJ_if_ne (tgt := 48) dX9_named_43 (by decide) (fun _ => ?_) (fun h9 => False.elim (by revert h9; decide))
      rw [show w.1 = d.1 from hfa.1.symm]
      exact zMo_nmT Δ d (zTnm U p) K hKd hT9 hUd _ rfl _ (hQ _ _ ⟨hfa, Or.inr ⟨p, hp, rfl, Or.inr ⟨⟨K, hKd.2.2.1, hKd.2.1.2.2.1⟩, d0, rfl⟩⟩⟩)
    · refine zJ_iconst (v := 2) dX9_named_39 (by decide) ?_
      refine zJ_cV2 dX9_named_40 sX9_291 mfX9_right (c_Mo_right0 Δ d Md d0 2 (by decide)) (by first | rfl | assumption | exact Md.at (by decide) (by decide)) rfl (Nat.le_of_ble_eq_true rfl) (by decide) (by decide) ?_
      refine zJ_if_ne (tgt := 48) dX9_named_43 (by decide) (fun h9 => False.elim (by revert h9; decide)) (fun _ => ?_)
      refine zJ_lconst (v := 0) dX9_named_46 (by decide) ?_
      exact zJ_lret dX9_named_47 rfl (by decide) (by decide) (hQ _ _ ⟨hfa.tr zFM.t0, Or.inr ⟨p, hp, rfl, Or.inl ⟨hno, by simp [zsi]⟩⟩⟩)
  · refine zJ_aload_n dX9_named_0 rfl ?_
    refine zJ_iconst (v := 0) dX9_named_1 (by decide) ?_
    refine zJ_puti dX9_named_2 fX9_170 (fun q h => by cases h; rfl) (by first | rfl | assumption | exact M0.at (by decide) (by decide)) rfl rfl rfl ?_
    refine zJ_aload_n dX9_named_5 rfl ?_
    refine zJ_iload_n dX9_named_6 rfl ?_
    refine zJ_cV1 dX9_named_7 sX9_339 mfX9_isPerson ((c_Mo_isPerson Δ (zsi w 100 0 0) M0 z0 x (U.1 0) hp1 hp8).2 hx) (by first | rfl | assumption | exact M0.at (by decide) (by decide)) rfl (Nat.le_of_ble_eq_true rfl) (by decide) (by decide) ?_
    refine zJ_if_ne (tgt := 15) dX9_named_10 (by decide) (fun h9 => False.elim (by revert h9; decide)) (fun _ => ?_)
    refine zJ_lconst (v := 0) dX9_named_13 (by decide) ?_
    exact zJ_lret dX9_named_14 rfl (by decide) (by decide) (hQ _ _ ⟨zFM.t0.tr zFM.t0, Or.inl ⟨hx, by simp [zsi]⟩⟩)
