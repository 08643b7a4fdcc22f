/-! LetterTown$Play: what sending is worth -/
/-- what is reckoned stands at the HANDS behind k, for the people of W -/
def zCh (w : zW) (b : Nat) (T : zTo) (K : List zKy) (k : zKy) (W : Nat) : Prop := ∀ y, y < 8 → zmay T k y = true → ∀ c : Nat, K[c]? = some (zbk T k y) → w.2.2.1 (b + 11) c = lN (zvl T (zbk T k y)).1 ∧ ∀ p, p < 8 → W.testBit p = true → w.2.2.1 (b + 12) (c * 8 + p) = lZ ((zvl T (zbk T k y)).2.1 p)
def zce (T : zTo) (k : zKy) (y : Nat) : Nat := (zvl T (zbk T k y)).1
def zcg (T : zTo) (k : zKy) (y : Nat) : Nat → Int := (zvl T (zbk T k y)).2.1
theorem zvl_e {T : zTo} {k : zKy} (hT : zTok T) (hk : zkok T k) : zvl T k = zRk T k (zce T k) (zcg T k) := zvl_eq hT hk
theorem zce_le {T : zTo} {k : zKy} (hT : zTok T) (hk : zkok T k) {y : Nat} (hy : y < 8) (hm : zmay T k y = true) : zce T k y ≤ 1000000000 := (zvl_rng hT (hk.bk hy hm)).1
theorem zcg_rng {T : zTo} {k : zKy} (hT : zTok T) (hk : zkok T k) {y p : Nat} (hy : y < 8) (hm : zmay T k y = true) : -420000000 ≤ zcg T k y p ∧ zcg T k y p ≤ 420000000 := (zvl_rng hT (hk.bk hy hm)).2 p
theorem zoft_eq {T : zTo} {k : zKy} (hT : zTok T) (hk : zkok T k) : zenc T k / 2 ^ (19 + 4 * k.1) % 16 = zoft k := by
  have h := (zenc_parts hT hk).2.2.2.2
  rw [zoft, Nat.pow_add, ← Nat.div_div_eq_div_mul, show (2 ^ 19 : Nat) = 524288 from rfl, h]
set_option maxRecDepth 100000 in
theorem c_Play_worthOf (Δ : zD) (w : zW) (b R m : Nat) (T : zTo) (K : List zKy) (hG : zGr w b R m T K) (x : Nat) (k : zKy) (hx : K[x]? = some k) (W : Nat) (hch : zCh w b T K k W) (hs3 : T.2.1 k.1 = 3) (hW : W.testBit k.1 = true) (y : Nat) (hy : y < 8) (hmy : zmay T k y = true) : zMd Δ 1 0 0 true yX1_worthOf mX1_worthOf [.ref b, .int (nI x), .int (nI y)] w (some (.long (lZ (zwo T k (zce T k) (zcg T k) y)))) w := by
  refine zMd.of mfX1_worthOf (Nat.le_of_ble_eq_true rfl) (fun QR hQ => ?_)
  have hG0 := hG
  obtain ⟨⟨p0, q0, q1, q2, q3, q4, q5, q6, q7, q8, q9, s11, s12, s13, s14, s15, s16, s17, s18, hS⟩, hi, hT, hall, hL, hrow⟩ := hG
  have hS0 := hS
  obtain ⟨g0, r1, r2, r3, r4, g1, g2, g3, g4, hR, hRm, hm, hR0⟩ := hS
  have hi0 := hi
  obtain ⟨t0, u1, u2, u3, u4, t1, t2, t3, t4⟩ := hi.1
  obtain ⟨-, hsc, hso, hnu, hkn, hwt⟩ := hi
  have hT0 := hT
  obtain ⟨hp0, hp5, hp6, hp7, hp8, hp9, hp10, hp11, hp12, hp13, hpp, hpw⟩ := hT
  have hm2 : 2 ^ m ≤ 2 ^ 15 := Nat.pow_le_pow_right (by decide) hm
  have hKR : K.length ≤ R := hL.2.2.1
  have hxK : x < K.length := (List.getElem?_eq_some_iff.mp hx).1
  have hk : zkok T k := hL.2.2.2.1 k (List.mem_iff_getElem?.mpr ⟨x, hx⟩)
  have cx : (nI x).toNatClampNeg = x := nI_clamp (by omega)
  have hky : w.2.2.1 (b + 6 + 1) x = lN (zenc T k) := hL.1 x k hx
  have hP := zenc_parts hT0 hk
  have hE52 := zenc_lt hT0 hk
  have hk1 : k.1 < 8 := hk.1
  have hk2 := hk.2.1
  have hbl := zmb_lt T k
  have hmayx := (hrow x k hx).1
  have hnx := (hrow x k hx).2
  have hso1 := hso k.1 hk1
  have hnu1 := hnu k.1 hk1
  have hsl := (hpp k.1).1
  have hnl := (hpp k.1).2.1
  have ck : (nI k.1).toNatClampNeg = k.1 := nI_clamp (by omega)
  obtain ⟨c, hc, hnc⟩ := (hnx y hy).1 hmy
  have hcK : c < K.length := (List.getElem?_eq_some_iff.mp hc).1
  obtain ⟨hve, hvg⟩ := hch y hy hmy c hc
  have hel := zce_le hT0 hk hy hmy
  have cc : (nI c).toNatClampNeg = c := nI_clamp (by omega)
  have e0 : nI x * 8 + nI y = nI (x * 8 + y) := by rw [show nI x * 8 = nI (x * 8) from na_mul x 8, na_add]
  have e1 : nI c * 8 + nI k.1 = nI (c * 8 + k.1) := by rw [show nI c * 8 = nI (c * 8) from na_mul c 8, na_add]
  have ho := zoft_lt k
  refine zJ_aload_n dX1_worthOf_0 rfl ?_
  refine zJ_getr dX1_worthOf_1 fX1_34 (by first | rfl | assumption) rfl (by first | rfl | assumption) ?_
  refine zJ_getr dX1_worthOf_4 fX1_158 (by first | rfl | assumption) rfl (by first | rfl | assumption) ?_
  refine zJ_iload_n dX1_worthOf_7 rfl ?_
  refine zJ_bipush (v := 8) dX1_worthOf_8 (by decide) ?_
  refine zJ_imul dX1_worthOf_10 ?_
  refine zJ_iload_n dX1_worthOf_11 rfl ?_
  refine zJ_iadd dX1_worthOf_12 ?_
  rw [e0]
  refine zJ_iald dX1_worthOf_13 (by first | rfl | assumption) (vp_in_nI (by omega) (by omega)) ?_
  refine zJ_istore_n (ls2 := fun x14 => [(3, .int x14), (0, .ref b), (1, .int (nI x)), (2, .int (nI y))]) dX1_worthOf_14 (by decide) (fun _ => rfl) (fun x14 ex14 => ?_)
  obtain rfl : x14 = (nI c) := by rw [ex14, nI_clamp (show x * 8 + y < 2 ^ 31 by omega), hnc]
  refine zJ_iload_n dX1_worthOf_15 rfl ?_
  refine zJ_if_ge (tgt := 21) dX1_worthOf_16 (by decide) (fun h16 => ?_) (fun h16 => ?_)
  · refine zJ_aload_n dX1_worthOf_21 rfl ?_
    refine zJ_getr dX1_worthOf_22 fX1_34 (by first | rfl | assumption) rfl (by first | rfl | assumption) ?_
    refine zJ_getr dX1_worthOf_25 fX1_101 (by first | rfl | assumption) rfl (by first | rfl | assumption) ?_
    refine zJ_iload_n dX1_worthOf_28 rfl ?_
    refine zJ_lald dX1_worthOf_29 (by first | rfl | assumption) (vp_in_nI (by omega) (by omega)) ?_
    refine zJ_lstore (ls2 := fun x30 => [(4, .long x30), (3, .int (nI c)), (0, .ref b), (1, .int (nI x)), (2, .int (nI y))]) dX1_worthOf_30 (by decide) (fun _ => rfl) (fun x30 ex30 => ?_)
    obtain rfl : x30 = (lN (zenc T k)) := by rw [ex30, cx, hky]
    refine zJ_lload dX1_worthOf_32 rfl ?_
    refine zJ_cS1 dX1_worthOf_34 sX1_104 mfX6_whoOf (c_Ways_whoOf Δ w (zenc T k)) (Nat.le_of_ble_eq_true rfl) (by decide) (by decide) ?_
    rw [hP.1]
    refine zJ_istore (ls2 := fun x37 => [(6, .int x37), (4, .long (lN (zenc T k))), (3, .int (nI c)), (0, .ref b), (1, .int (nI x)), (2, .int (nI y))]) dX1_worthOf_37 (by decide) (fun _ => rfl) (fun x37 ex37 => ?_)
    obtain rfl : x37 = (nI k.1) := ex37
    refine zJ_lload dX1_worthOf_39 rfl ?_
    refine zJ_iload dX1_worthOf_41 rfl ?_
    refine zJ_cS2 dX1_worthOf_43 sX1_180 mfX6_timesSent (c_Ways_timesSent Δ w (zenc T k) k.1 (by omega) hk1) (Nat.le_of_ble_eq_true rfl) (by decide) (by decide) ?_
    rw [zoft_eq hT0 hk, show nI (zoft k) = nI (zoft k) from rfl]
    refine zJ_iconst (v := 1) dX1_worthOf_46 (by decide) ?_
    refine zJ_iadd dX1_worthOf_47 ?_
    refine zJ_i2l dX1_worthOf_48 ?_
    refine zJ_lstore (ls2 := fun x49 => [(7, .long x49), (6, .int (nI k.1)), (4, .long (lN (zenc T k))), (3, .int (nI c)), (0, .ref b), (1, .int (nI x)), (2, .int (nI y))]) dX1_worthOf_49 (by decide) (fun _ => rfl) (fun x49 ex49 => ?_)
    obtain rfl : x49 = (lN (zoft k + 1)) := by rw [ex49, show nI (zoft k) + 1 = nI (zoft k + 1) from nI_1 _, nI_l (by omega)]
    refine zJ_aload_n dX1_worthOf_51 rfl ?_
    refine zJ_getr dX1_worthOf_52 fX1_12 (by first | rfl | assumption) rfl (by first | rfl | assumption) ?_
    refine zJ_getr dX1_worthOf_55 fX1_108 (by first | rfl | assumption) rfl (by first | rfl | assumption) ?_
    refine zJ_iload dX1_worthOf_58 rfl ?_
    refine zJ_iald dX1_worthOf_60 (by first | rfl | assumption) (vp_in_nI (by omega) (by decide)) ?_
    rw [ck, hso1]
    refine zJ_iconst (v := 3) dX1_worthOf_61 (by decide) ?_
    refine zJ_icmp_ne (tgt := 79) dX1_worthOf_62 (by decide) (fun h62 => ?_) (fun h62 => ?_)
    · exact absurd (by rw [hs3]; rfl) h62
    · refine zJ_aload_n dX1_worthOf_65 rfl ?_
      refine zJ_getr dX1_worthOf_66 fX1_12 (by first | rfl | assumption) rfl (by first | rfl | assumption) ?_
      refine zJ_getr dX1_worthOf_69 fX1_184 (by first | rfl | assumption) rfl (by first | rfl | assumption) ?_
      refine zJ_iload dX1_worthOf_72 rfl ?_
      refine zJ_iald dX1_worthOf_74 (by first | rfl | assumption) (vp_in_nI (by omega) (by decide)) ?_
      rw [ck, hnu1]
      refine zJ_i2l dX1_worthOf_75 ?_
      rw [nI_l (by omega)]
      refine zJ_goto (tgt := 80) dX1_worthOf_76 (by decide) ?_
      refine zJ_lstore (ls2 := fun x80 => [(9, .long x80), (7, .long (lN (zoft k + 1))), (6, .int (nI k.1)), (4, .long (lN (zenc T k))), (3, .int (nI c)), (0, .ref b), (1, .int (nI x)), (2, .int (nI y))]) dX1_worthOf_80 (by decide) (fun _ => rfl) (fun x80 ex80 => ?_)
      obtain rfl : x80 = (lN (T.2.2.1 k.1)) := ex80
      refine zJ_aload_n dX1_worthOf_82 rfl ?_
      refine zJ_getr dX1_worthOf_83 fX1_41 (by first | rfl | assumption) rfl (by first | rfl | assumption) ?_
      refine zJ_iload_n dX1_worthOf_86 rfl ?_
      refine zJ_bipush (v := 8) dX1_worthOf_87 (by decide) ?_
      refine zJ_imul dX1_worthOf_89 ?_
      refine zJ_iload dX1_worthOf_90 rfl ?_
      refine zJ_iadd dX1_worthOf_92 ?_
      rw [e1]
      refine zJ_lald dX1_worthOf_93 (by first | rfl | assumption) (vp_in_nI (by omega) (by omega)) ?_
      rw [nI_clamp (show c * 8 + k.1 < 2 ^ 31 by omega), hvg k.1 hk1 hW]
      refine zJ_lload dX1_worthOf_94 rfl ?_
      refine zJ_aload_n dX1_worthOf_96 rfl ?_
      refine zJ_iload_n dX1_worthOf_97 rfl ?_
      refine zJ_cV1 dX1_worthOf_98 sX1_165 mfX1_payFor (c_Play_payFor Δ w b R m T K hG0 c (zce T k y) hcK hel hve) (by first | rfl | assumption) rfl (Nat.le_of_ble_eq_true rfl) (by decide) (by decide) ?_
      refine zJ_lmul dX1_worthOf_101 ?_
      refine zJ_ladd dX1_worthOf_102 ?_
      refine zJ_ldc2 dX1_worthOf_103 kX1_139 ?_
      refine zJ_lload dX1_worthOf_106 rfl ?_
      refine zJ_aload_n dX1_worthOf_108 rfl ?_
      refine zJ_getr dX1_worthOf_109 fX1_12 (by first | rfl | assumption) rfl (by first | rfl | assumption) ?_
      refine zJ_geti dX1_worthOf_112 fX1_168 (by first | rfl | assumption) rfl ?_
      rw [hsc 6 (by decide) (by decide)]
      refine zJ_i2l dX1_worthOf_115 ?_
      rw [nI_l (by omega)]
      refine zJ_lsub dX1_worthOf_116 ?_
      refine zJ_lmul dX1_worthOf_117 ?_
      refine zJ_ladd dX1_worthOf_118 ?_
      refine zJ_lret dX1_worthOf_119 rfl (by decide) (by decide) ?_
      have e9 : lZ ((zvl T (zbk T k y)).2.1 k.1) + lN (zoft k + 1) * lN (zpay T (zce T k y)) + 1000 * (lN (T.2.2.1 k.1) - lN (T.1 6)) = lZ (zwo T k (zce T k) (zcg T k) y) := by
        rw [lN_mul, lZ_n, lZ_n, lZ_n, lZ_sub, show (1000 : Int64) = lZ 1000 from rfl, lZ_mul, lZ_add, lZ_add]
        rfl
      rw [e9]; exact hQ
  · exact absurd ((nI_leI (a := 0) (b := c) (by decide) (by omega)).mpr (Nat.zero_le _)) h16
def zmo (T : zTo) (k : zKy) (e : Nat → Nat) (g : Nat → Nat → Int) (r : Option Nat) : Int := match r with
  | none => 0
  | some q => zwo T k e g q
theorem zmo_rng {T : zTo} (hT : zTok T) {k : zKy} (hk : zkok T k) {n : Nat} (hn : n ≤ 8) : -1000000000 ≤ zmo T k (zce T k) (zcg T k) (zli T k (zce T k) (zcg T k) n) ∧ zmo T k (zce T k) (zcg T k) (zli T k (zce T k) (zcg T k) n) ≤ 1000000000 := by
  cases hz : zli T k (zce T k) (zcg T k) n with
  | none => simp [zmo]
  | some q =>
    have hq := zli_may _ _ _ _ _ _ hz
    exact zwo_rng hT (zce_le hT hk (by omega) hq.2) (zcg_rng hT hk (by omega) hq.2)
set_option maxRecDepth 100000 in
theorem c_Play_likedMost (Δ : zD) (w : zW) (b R m : Nat) (T : zTo) (K : List zKy) (hG : zGr w b R m T K) (x : Nat) (k : zKy) (hx : K[x]? = some k) (W : Nat) (hch : zCh w b T K k W) (hs3 : T.2.1 k.1 = 3) (hW : W.testBit k.1 = true) : zMd Δ 2 0 0 true yX1_likedMost mX1_likedMost [.ref b, .int (nI x)] w (some (.int (zoi (zli T k (zce T k) (zcg T k) 8)))) w := by
  refine zMd.of mfX1_likedMost (Nat.le_of_ble_eq_true rfl) (fun QR hQ => ?_)
  have hG0 := hG
  obtain ⟨⟨p0, q0, q1, q2, q3, q4, q5, q6, q7, q8, q9, s11, s12, s13, s14, s15, s16, s17, s18, hS⟩, hi, hT, hall, hL, hrow⟩ := hG
  have hS0 := hS
  obtain ⟨g0, r1, r2, r3, r4, g1, g2, g3, g4, hR, hRm, hm, hR0⟩ := hS
  have hi0 := hi
  obtain ⟨t0, u1, u2, u3, u4, t1, t2, t3, t4⟩ := hi.1
  obtain ⟨-, hsc, hso, hnu, hkn, hwt⟩ := hi
  have hT0 := hT
  obtain ⟨hp0, hp5, hp6, hp7, hp8, hp9, hp10, hp11, hp12, hp13, hpp, hpw⟩ := hT
  have hm2 : 2 ^ m ≤ 2 ^ 15 := Nat.pow_le_pow_right (by decide) hm
  have hKR : K.length ≤ R := hL.2.2.1
  have hxK : x < K.length := (List.getElem?_eq_some_iff.mp hx).1
  have hk : zkok T k := hL.2.2.2.1 k (List.mem_iff_getElem?.mpr ⟨x, hx⟩)
  have cx : (nI x).toNatClampNeg = x := nI_clamp (by omega)
  have hky : w.2.2.1 (b + 6 + 1) x = lN (zenc T k) := hL.1 x k hx
  have hP := zenc_parts hT0 hk
  have hE52 := zenc_lt hT0 hk
  have hk1 : k.1 < 8 := hk.1
  have hk2 := hk.2.1
  have hbl := zmb_lt T k
  have hmayx := (hrow x k hx).1
  have hnx := (hrow x k hx).2
  have hso1 := hso k.1 hk1
  have hnu1 := hnu k.1 hk1
  have hsl := (hpp k.1).1
  have hnl := (hpp k.1).2.1
  have ck : (nI k.1).toNatClampNeg = k.1 := nI_clamp (by omega)
  have L : ∀ j, j ≤ 8 → zJ Δ mX1_likedMost (zRm 2 0 0) true w.1 QR (fun _ _ => False) 0 0 7 [(5, .int (nI j)), (3, .long (lZ (zmo T k (zce T k) (zcg T k) (zli T k (zce T k) (zcg T k) j)))), (2, .int (zoi (zli T k (zce T k) (zcg T k) j))), (0, .ref b), (1, .int (nI x))] [] w := by
    refine zup (fun j hj ih => ?_)
    have hrm := zmo_rng hT0 hk hj
    refine zJ_iload dX1_likedMost_7 rfl ?_
    refine zJ_bipush (v := 8) dX1_likedMost_9 (by decide) ?_
    refine zJ_icmp_ge (tgt := 63) dX1_likedMost_11 (by decide) (fun h11 => ?_) (fun h11 => ?_)
    · have hj9 : j = 8 := by exact Nat.le_antisymm hj ((nI_leI (a := 8) (b := j) (by omega) (by omega)).mp h11)
      subst hj9
      refine zJ_iload_n dX1_likedMost_63 rfl ?_
      exact zJ_iret dX1_likedMost_64 rfl (by decide) (by decide) hQ
    · have hj9 : j < 8 := Nat.lt_of_not_le fun hq9 => h11 (by exact (nI_leI (a := 8) (b := j) (by omega) (by omega)).mpr hq9)
      refine zJ_aload_n dX1_likedMost_14 rfl ?_
      refine zJ_getr dX1_likedMost_15 fX1_34 (by first | rfl | assumption) rfl (by first | rfl | assumption) ?_
      refine zJ_getr dX1_likedMost_18 fX1_187 (by first | rfl | assumption) rfl (by first | rfl | assumption) ?_
      refine zJ_iload_n dX1_likedMost_21 rfl ?_
      refine zJ_iald dX1_likedMost_22 (by first | rfl | assumption) (vp_in_nI (by omega) (by omega)) ?_
      rw [cx, hmayx]
      refine zJ_iload dX1_likedMost_23 rfl ?_
      refine zJ_ishr dX1_likedMost_25 ?_
      refine zJ_iconst (v := 1) dX1_likedMost_26 (by decide) ?_
      refine zJ_iand dX1_likedMost_27 ?_
      rw [nI_bit (by omega) (by omega)]
      refine zJ_if_eq (tgt := 57) dX1_likedMost_28 (by decide) (fun h28 => ?_) (fun h28 => ?_)
      · refine zJ_iinc (ls2 := fun x57 => [(5, .int x57), (3, .long (lZ (zmo T k (zce T k) (zcg T k) (zli T k (zce T k) (zcg T k) j)))), (2, .int (zoi (zli T k (zce T k) (zcg T k) j))), (0, .ref b), (1, .int (nI x))]) dX1_likedMost_57 rfl (by decide) (fun _ => rfl) (fun x57 ex57 => ?_)
        refine zJ_goto (tgt := 7) dX1_likedMost_60 (by decide) ?_
        refine zJ_ls [(5, .int x57), (3, .long (lZ (zmo T k (zce T k) (zcg T k) (zli T k (zce T k) (zcg T k) j)))), (2, .int (zoi (zli T k (zce T k) (zcg T k) j))), (0, .ref b), (1, .int (nI x))] (by simp) ?_
        rw [ex57, show nI j + Int32.ofInt 1 = nI (j + 1) from nI_1 _]
        have hno : zmay T k j = false := by
          cases hz : zmay T k j with
          | false => rfl
          | true =>
            rw [← zmb_tb T k hj9] at hz
            rw [tb_of.mp hz] at h28
            exact absurd h28 (by decide)
        have ez : zli T k (zce T k) (zcg T k) (j + 1) = zli T k (zce T k) (zcg T k) j := by simp [zli, hno]
        rw [← ez]
        exact ih (j + 1) (by omega) (by omega)
      · have hyes : zmay T k j = true := by
          rw [← zmb_tb T k hj9, tb_of]
          have h1 : ¬ zmb T k / 2 ^ j % 2 = 0 := fun h => h28 (by rw [h]; rfl)
          omega
        have hrj := zwo_rng hT0 (k := k) (e := zce T k) (g := zcg T k) (y := j) (zce_le hT0 hk hj9 hyes) (zcg_rng hT0 hk hj9 hyes)
        refine zJ_aload_n dX1_likedMost_31 rfl ?_
        refine zJ_iload_n dX1_likedMost_32 rfl ?_
        refine zJ_iload dX1_likedMost_33 rfl ?_
        refine zJ_cV2 dX1_likedMost_35 sX1_115 mfX1_worthOf (c_Play_worthOf Δ w b R m T K hG0 x k hx W hch hs3 hW j hj9 hyes) (by first | rfl | assumption) rfl (Nat.le_of_ble_eq_true rfl) (by decide) (by decide) ?_
        refine zJ_lstore (ls2 := fun x38 => [(6, .long x38), (5, .int (nI j)), (3, .long (lZ (zmo T k (zce T k) (zcg T k) (zli T k (zce T k) (zcg T k) j)))), (2, .int (zoi (zli T k (zce T k) (zcg T k) j))), (0, .ref b), (1, .int (nI x))]) dX1_likedMost_38 (by decide) (fun _ => rfl) (fun x38 ex38 => ?_)
        obtain rfl : x38 = (lZ (zwo T k (zce T k) (zcg T k) j)) := ex38
        refine zJ_iload_n dX1_likedMost_40 rfl ?_
        refine zJ_if_lt (tgt := 51) dX1_likedMost_41 (by decide) (fun h41 => ?_) (fun h41 => ?_)
        · refine zJ_iload dX1_likedMost_51 rfl ?_
          refine zJ_istore_n (ls2 := fun x53 => [(2, .int x53), (6, .long (lZ (zwo T k (zce T k) (zcg T k) j))), (5, .int (nI j)), (3, .long (lZ (zmo T k (zce T k) (zcg T k) (zli T k (zce T k) (zcg T k) j)))), (0, .ref b), (1, .int (nI x))]) dX1_likedMost_53 (by decide) (fun _ => rfl) (fun x53 ex53 => ?_)
          refine zJ_lload dX1_likedMost_54 rfl ?_
          refine zJ_lstore_n (ls2 := fun x56 => [(3, .long x56), (2, .int x53), (6, .long (lZ (zwo T k (zce T k) (zcg T k) j))), (5, .int (nI j)), (0, .ref b), (1, .int (nI x))]) dX1_likedMost_56 (by decide) (fun _ => rfl) (fun x56 ex56 => ?_)
          refine zJ_iinc (ls2 := fun x57 => [(5, .int x57), (3, .long x56), (2, .int x53), (6, .long (lZ (zwo T k (zce T k) (zcg T k) j))), (0, .ref b), (1, .int (nI x))]) dX1_likedMost_57 rfl (by decide) (fun _ => rfl) (fun x57 ex57 => ?_)
          refine zJ_goto (tgt := 7) dX1_likedMost_60 (by decide) ?_
          refine zJ_ls [(5, .int x57), (3, .long x56), (2, .int x53), (0, .ref b), (1, .int (nI x))] (by simp) ?_
          rw [ex57, show nI j + Int32.ofInt 1 = nI (j + 1) from nI_1 _]
          have ez : zli T k (zce T k) (zcg T k) (j + 1) = some j := by
            cases hz : zli T k (zce T k) (zcg T k) j with
            | none => simp [zli, hyes, hz]
            | some q =>
              have hq := zli_may _ _ _ _ _ _ hz
              rw [hz] at h41
              exact absurd ((nI_ltI (a := q) (b := 0) (by omega) (by decide)).mp h41) (by omega)
          rw [ex53, ex56, show nI j = zoi (zli T k (zce T k) (zcg T k) (j + 1)) by rw [ez]; rfl, show zwo T k (zce T k) (zcg T k) j = zmo T k (zce T k) (zcg T k) (zli T k (zce T k) (zcg T k) (j + 1)) by rw [ez]; rfl]
          exact ih (j + 1) (by omega) (by omega)
        · refine zJ_lload dX1_likedMost_44 rfl ?_
          refine zJ_lload_n dX1_likedMost_46 rfl ?_
          refine zJ_lc_le (tgt := 57) dX1_likedMost_47 dX1_likedMost_48 (by decide) (fun h48 => ?_) (fun h48 => ?_)
          · refine zJ_iinc (ls2 := fun x57 => [(5, .int x57), (6, .long (lZ (zwo T k (zce T k) (zcg T k) j))), (3, .long (lZ (zmo T k (zce T k) (zcg T k) (zli T k (zce T k) (zcg T k) j)))), (2, .int (zoi (zli T k (zce T k) (zcg T k) j))), (0, .ref b), (1, .int (nI x))]) dX1_likedMost_57 rfl (by decide) (fun _ => rfl) (fun x57 ex57 => ?_)
            refine zJ_goto (tgt := 7) dX1_likedMost_60 (by decide) ?_
            refine zJ_ls [(5, .int x57), (3, .long (lZ (zmo T k (zce T k) (zcg T k) (zli T k (zce T k) (zcg T k) j)))), (2, .int (zoi (zli T k (zce T k) (zcg T k) j))), (0, .ref b), (1, .int (nI x))] (by simp) ?_
            rw [ex57, show nI j + Int32.ofInt 1 = nI (j + 1) from nI_1 _]
            have ez : zli T k (zce T k) (zcg T k) (j + 1) = zli T k (zce T k) (zcg T k) j := by
              cases hz : zli T k (zce T k) (zcg T k) j with
              | none => rw [hz] at h41; exact absurd (by decide) h41
              | some q =>
                have h8 : ¬ zwo T k (zce T k) (zcg T k) q < zwo T k (zce T k) (zcg T k) j := by
                  have h7 := (lZ_le (by omega) (by omega) (by omega) (by omega)).mp h48
                  rw [hz] at h7; exact Int.not_lt.mpr h7
                simp [zli, hyes, hz, h8]
            rw [← ez]
            exact ih (j + 1) (by omega) (by omega)
          · refine zJ_iload dX1_likedMost_51 rfl ?_
            refine zJ_istore_n (ls2 := fun x53 => [(2, .int x53), (6, .long (lZ (zwo T k (zce T k) (zcg T k) j))), (5, .int (nI j)), (3, .long (lZ (zmo T k (zce T k) (zcg T k) (zli T k (zce T k) (zcg T k) j)))), (0, .ref b), (1, .int (nI x))]) dX1_likedMost_53 (by decide) (fun _ => rfl) (fun x53 ex53 => ?_)
            refine zJ_lload dX1_likedMost_54 rfl ?_
            refine zJ_lstore_n (ls2 := fun x56 => [(3, .long x56), (2, .int x53), (6, .long (lZ (zwo T k (zce T k) (zcg T k) j))), (5, .int (nI j)), (0, .ref b), (1, .int (nI x))]) dX1_likedMost_56 (by decide) (fun _ => rfl) (fun x56 ex56 => ?_)
            refine zJ_iinc (ls2 := fun x57 => [(5, .int x57), (3, .long x56), (2, .int x53), (6, .long (lZ (zwo T k (zce T k) (zcg T k) j))), (0, .ref b), (1, .int (nI x))]) dX1_likedMost_57 rfl (by decide) (fun _ => rfl) (fun x57 ex57 => ?_)
            refine zJ_goto (tgt := 7) dX1_likedMost_60 (by decide) ?_
            refine zJ_ls [(5, .int x57), (3, .long x56), (2, .int x53), (0, .ref b), (1, .int (nI x))] (by simp) ?_
            rw [ex57, show nI j + Int32.ofInt 1 = nI (j + 1) from nI_1 _]
            have ez : zli T k (zce T k) (zcg T k) (j + 1) = some j := by
              cases hz : zli T k (zce T k) (zcg T k) j with
              | none => simp [zli, hyes, hz]
              | some q =>
                have h8 : zwo T k (zce T k) (zcg T k) q < zwo T k (zce T k) (zcg T k) j := by
                  have h7 := Int.not_le.mp (fun h => h48 ((lZ_le (by omega) (by omega) (by omega) (by omega)).mpr h))
                  rw [hz] at h7; exact h7
                simp [zli, hyes, hz, h8]
            rw [ex53, ex56, show nI j = zoi (zli T k (zce T k) (zcg T k) (j + 1)) by rw [ez]; rfl, show zwo T k (zce T k) (zcg T k) j = zmo T k (zce T k) (zcg T k) (zli T k (zce T k) (zcg T k) (j + 1)) by rw [ez]; rfl]
            exact ih (j + 1) (by omega) (by omega)
  refine zJ_iconst (v := (-1)) dX1_likedMost_0 (by decide) ?_
  refine zJ_istore_n (ls2 := fun x1 => [(2, .int x1), (0, .ref b), (1, .int (nI x))]) dX1_likedMost_1 (by decide) (fun _ => rfl) (fun x1 ex1 => ?_)
  refine zJ_lconst (v := 0) dX1_likedMost_2 (by decide) ?_
  refine zJ_lstore_n (ls2 := fun x3 => [(3, .long x3), (2, .int x1), (0, .ref b), (1, .int (nI x))]) dX1_likedMost_3 (by decide) (fun _ => rfl) (fun x3 ex3 => ?_)
  refine zJ_iconst (v := 0) dX1_likedMost_4 (by decide) ?_
  refine zJ_istore (ls2 := fun x5 => [(5, .int x5), (3, .long x3), (2, .int x1), (0, .ref b), (1, .int (nI x))]) dX1_likedMost_5 (by decide) (fun _ => rfl) (fun x5 ex5 => ?_)
  subst ex1; subst ex3; subst ex5
  exact L 0 (Nat.zero_le _)
set_option maxRecDepth 100000 in
theorem c_Play_openingOf (Δ : zD) (w : zW) (b R m : Nat) (T : zTo) (K : List zKy) (hG : zGr w b R m T K) (x : Nat) (k : zKy) (hx : K[x]? = some k) : zMd Δ 1 0 0 true yX1_openingOf mX1_openingOf [.ref b, .int (nI x)] w (some (.long (lZ (1000 * (zpe T k.2.1 : Int))))) w := by
  refine zMd.of mfX1_openingOf (Nat.le_of_ble_eq_true rfl) (fun QR hQ => ?_)
  have hG0 := hG
  obtain ⟨⟨p0, q0, q1, q2, q3, q4, q5, q6, q7, q8, q9, s11, s12, s13, s14, s15, s16, s17, s18, hS⟩, hi, hT, hall, hL, hrow⟩ := hG
  have hS0 := hS
  obtain ⟨g0, r1, r2, r3, r4, g1, g2, g3, g4, hR, hRm, hm, hR0⟩ := hS
  have hi0 := hi
  obtain ⟨t0, u1, u2, u3, u4, t1, t2, t3, t4⟩ := hi.1
  obtain ⟨-, hsc, hso, hnu, hkn, hwt⟩ := hi
  have hT0 := hT
  obtain ⟨hp0, hp5, hp6, hp7, hp8, hp9, hp10, hp11, hp12, hp13, hpp, hpw⟩ := hT
  have hm2 : 2 ^ m ≤ 2 ^ 15 := Nat.pow_le_pow_right (by decide) hm
  have hKR : K.length ≤ R := hL.2.2.1
  have hxK : x < K.length := (List.getElem?_eq_some_iff.mp hx).1
  have hk : zkok T k := hL.2.2.2.1 k (List.mem_iff_getElem?.mpr ⟨x, hx⟩)
  have cx : (nI x).toNatClampNeg = x := nI_clamp (by omega)
  have hky : w.2.2.1 (b + 6 + 1) x = lN (zenc T k) := hL.1 x k hx
  have hP := zenc_parts hT0 hk
  have hE52 := zenc_lt hT0 hk
  have hk1 : k.1 < 8 := hk.1
  have hk2 := hk.2.1
  have hbl := zmb_lt T k
  have hmayx := (hrow x k hx).1
  have hnx := (hrow x k hx).2
  have hso1 := hso k.1 hk1
  have hnu1 := hnu k.1 hk1
  have hsl := (hpp k.1).1
  have hnl := (hpp k.1).2.1
  have ck : (nI k.1).toNatClampNeg = k.1 := nI_clamp (by omega)
  have hpl := zpe_le hT0 (show k.2.1 ≤ 13 by omega)
  refine zJ_ldc2 dX1_openingOf_0 kX1_139 ?_
  refine zJ_aload_n dX1_openingOf_3 rfl ?_
  refine zJ_getr dX1_openingOf_4 fX1_12 (by first | rfl | assumption) rfl (by first | rfl | assumption) ?_
  refine zJ_aload_n dX1_openingOf_7 rfl ?_
  refine zJ_getr dX1_openingOf_8 fX1_34 (by first | rfl | assumption) rfl (by first | rfl | assumption) ?_
  refine zJ_getr dX1_openingOf_11 fX1_101 (by first | rfl | assumption) rfl (by first | rfl | assumption) ?_
  refine zJ_iload_n dX1_openingOf_14 rfl ?_
  refine zJ_lald dX1_openingOf_15 (by first | rfl | assumption) (vp_in_nI (by omega) (by omega)) ?_
  rw [cx, hky]
  refine zJ_cS1 dX1_openingOf_16 sX1_133 mfX6_handOf (c_Ways_handOf Δ w (zenc T k) (by omega)) (Nat.le_of_ble_eq_true rfl) (by decide) (by decide) ?_
  rw [hP.2.1]
  refine zJ_cV1 dX1_openingOf_19 sX1_141 mfX5_pence (c_Town_penceN Δ w (b + 1) k.2.1 T hi0 (by omega)) (by first | rfl | assumption) rfl (Nat.le_of_ble_eq_true rfl) (by decide) (by decide) ?_
  refine zJ_i2l dX1_openingOf_22 ?_
  rw [nI_l (show zpe T k.2.1 < 2 ^ 31 by omega)]
  refine zJ_lmul dX1_openingOf_23 ?_
  rw [show (1000 : Int64) * lN (zpe T k.2.1) = lZ (1000 * (zpe T k.2.1 : Int)) by rw [lZ_n, show (1000 : Int64) = lZ 1000 from rfl, lZ_mul]]
  exact zJ_lret dX1_openingOf_24 rfl (by decide) (by decide) hQ
