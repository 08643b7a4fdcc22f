/-! the model: openedOf, spreads -/
def zBm (w : zW) (T : zTo) (K : List zKy) : Prop := ∀ (x : Nat) (k : zKy), K[x]? = some k → T.2.1 k.1 = 3 → w.2.1 152 x = zoi (zcC T k)
theorem zUm.bm {w : zW} {T : zTo} {K : List zKy} (h : zUm w T K 0) (hT : zTok T) (hK : zMK w T K) : zBm w T K := fun x k hx h3 => by
  rw [(h x k (Nat.zero_le _) hx).2.2, zvl_C hT (hK.2.1.2.2.2 k (List.mem_iff_getElem?.mpr ⟨x, hx⟩)).1 h3]
theorem zBm.fm {w c : zW} {T : zTo} {K : List zKy} {l : List Nat} (h : zBm w T K) (hf : zFM l w c) (hd : 52 ∉ l) : zBm c T K := fun x k hx h3 => (hf.ar (k := 52) hd (by decide)).trans (h x k hx h3)
set_option maxRecDepth 100000 in
theorem c_Mo_openedOf (Δ : zD) (w : zW) (T : zTo) (K : List zKy) (hK : zMK w T K) (hT : zTok T) (x : Nat) (k : zKy) (hx : K[x]? = some k) (hB : zBm w T K) (v : Nat) (hv : v ≤ 1000000000) : zMd Δ 2 0 0 true yX9_openedOf mX9_openedOf [.ref 100, .int (nI x), .long (lN v)] w (some (.long (lN (zop1 T k v)))) w := by
  refine zMd.of mfX9_openedOf (Nat.le_of_ble_eq_true rfl) (fun QR hQ => ?_)
  have hK0 := hK
  obtain ⟨hA, hN, hall, hch⟩ := hK
  have hA0 := hA
  obtain ⟨hM, m1, m3, m4, m5, m6, m7, m46, m9, m47, mso, mnu, mwt⟩ := hA
  have hT0 := hT
  obtain ⟨hp0, hp5, hp6, hp7, hp8, hp9, hp10, hp11, hp12, hp13, hpp, hpw⟩ := hT
  have hxK : x < K.length := (List.getElem?_eq_some_iff.mp hx).1
  have hKR := hN.2.2.1
  obtain ⟨hk, hkp⟩ := hN.2.2.2 k (List.mem_iff_getElem?.mpr ⟨x, hx⟩)
  obtain ⟨y1, y2, y3, y4⟩ := hN.1 x k hx
  have hk1 := hk.1
  have hk2 := hk.2.1
  have hso := (hpp k.1).1
  have hnu := (hpp k.1).2.1
  have hwb : zwS T k ≤ 8 * 99 := fb_sm_bound (fun y hy => by
    try simp only
    split
    · exact (hpw k.1 y hk1 (by omega)).1
    · omega)
  have all : zsh T k (zcC T k) = 1000 → zop1 T k v = v := fun h => by simp only [zop1, h]; omega
  have non : zsh T k (zcC T k) = 0 → zop1 T k v = 0 := fun h => by simp only [zop1, h]; omega
  refine zJ_aload_n dX9_openedOf_0 rfl ?_
  refine zJ_getr (j := 139) dX9_openedOf_1 fX9_50 (by first | rfl | assumption | exact hM.at (by decide) (by decide)) rfl (by first | rfl | assumption | exact hM.rf (by decide) rfl) ?_
  refine zJ_iload_n dX9_openedOf_4 rfl ?_
  refine zJ_ialdN (i := x) (v := (nI k.1)) dX9_openedOf_5 (by first | rfl | assumption | exact hM.at (by decide) (by decide)) rfl (by omega) (by decide) y1 ?_
  refine zJ_istore (ls2 := fun x6 => [(4, .int x6), (0, .ref 100), (1, .int (nI x)), (2, .long (lN v))]) dX9_openedOf_6 (by decide) (fun _ => rfl) (fun x6 ex6 => ?_)
  obtain rfl : x6 = (nI k.1) := ex6
  refine zJ_aload_n dX9_openedOf_8 rfl ?_
  refine zJ_iload_n dX9_openedOf_9 rfl ?_
  refine zJ_cV1 dX9_openedOf_10 sX9_386 mfX9_weightsOf (c_Mo_weightsOf Δ w T K hK0 hT0 x k hx) (by first | rfl | assumption | exact hM.at (by decide) (by decide)) rfl (Nat.le_of_ble_eq_true rfl) (by decide) (by decide) ?_
  refine zJ_if_ne (tgt := 18) dX9_openedOf_13 (by decide) (fun h13 => ?_) (fun h13 => ?_)
  · have hmb : ¬ zmb T k = 0 := fun h => h13 (by rw [zwS_0 h]; rfl)
    refine zJ_aload_n dX9_openedOf_18 rfl ?_
    refine zJ_getr (j := 148) dX9_openedOf_19 fX9_70 (by first | rfl | assumption | exact hM.at (by decide) (by decide)) rfl (by first | rfl | assumption | exact hM.rf (by decide) rfl) ?_
    refine zJ_iload dX9_openedOf_22 rfl ?_
    refine zJ_ialdN (i := k.1) (v := (nI (T.2.1 k.1))) dX9_openedOf_24 (by first | rfl | assumption | exact hM.at (by decide) (by decide)) rfl (by omega) (by decide) (mso k.1 hkp) ?_
    rcases (by omega : T.2.1 k.1 = 0 ∨ T.2.1 k.1 = 1 ∨ T.2.1 k.1 = 2 ∨ T.2.1 k.1 = 3) with hs | hs | hs | hs
    · rw [hs]
      refine zJ_tabN (off := 27) (tgt := 52) dX9_openedOf_25 (by decide) (by decide) rfl (by decide) ?_
      refine zJ_aload_n dX9_openedOf_52 rfl ?_
      refine zJ_iload dX9_openedOf_53 rfl ?_
      refine zJ_aload_n dX9_openedOf_55 rfl ?_
      refine zJ_getr (j := 140) dX9_openedOf_56 fX9_53 (by first | rfl | assumption | exact hM.at (by decide) (by decide)) rfl (by first | rfl | assumption | exact hM.rf (by decide) rfl) ?_
      refine zJ_iload_n dX9_openedOf_59 rfl ?_
      refine zJ_ialdN (i := x) (v := (nI k.2.1)) dX9_openedOf_60 (by first | rfl | assumption | exact hM.at (by decide) (by decide)) rfl (by omega) (by decide) y2 ?_
      refine zJ_cV2 dX9_openedOf_61 sX9_396 mfX9_isOpenedAt (c_Mo_isOpenedAt Δ w T hA0 hT0 k.1 k.2.1 hkp ⟨hk2.1, by omega⟩) (by first | rfl | assumption | exact hM.at (by decide) (by decide)) rfl (Nat.le_of_ble_eq_true rfl) (by decide) (by decide) ?_
      refine zJ_if_eq (tgt := 71) dX9_openedOf_64 (by decide) (fun h64a => ?_) (fun h64a => ?_)
      · have hnop : ¬ T.2.2.1 k.1 ≤ zfl T k.2.1 := fun h => by rw [if_pos h] at h64a; exact absurd h64a (by decide)
        refine zJ_lconst (v := 0) dX9_openedOf_71 (by decide) ?_
        rw [non (by simp only [zsh, hmb, hs, if_false, if_true]; rw [if_neg hnop])] at hQ
        exact zJ_lret dX9_openedOf_72 rfl (by decide) (by decide) hQ
      · have hop : T.2.2.1 k.1 ≤ zfl T k.2.1 := Classical.byContradiction fun h => h64a (by rw [if_neg h])
        refine zJ_lload_n dX9_openedOf_67 rfl ?_
        refine zJ_goto (tgt := 72) dX9_openedOf_68 (by decide) ?_
        rw [all (by simp only [zsh, hmb, hs, if_false, if_true]; rw [if_pos hop])] at hQ
        exact zJ_lret dX9_openedOf_72 rfl (by decide) (by decide) hQ
    · rw [hs]
      refine zJ_tabN (off := 48) (tgt := 73) dX9_openedOf_25 (by decide) (by decide) rfl (by decide) ?_
      refine zJ_lconst (v := 0) dX9_openedOf_73 (by decide) ?_
      rw [non (by simp only [zsh, hmb, hs, if_false]; rfl)] at hQ
      exact zJ_lret dX9_openedOf_74 rfl (by decide) (by decide) hQ
    · rw [hs]
      refine zJ_tabN (off := 50) (tgt := 75) dX9_openedOf_25 (by decide) (by decide) rfl (by decide) ?_
      refine zJ_lload_n dX9_openedOf_75 rfl ?_
      refine zJ_aload_n dX9_openedOf_76 rfl ?_
      refine zJ_getr (j := 149) dX9_openedOf_77 fX9_73 (by first | rfl | assumption | exact hM.at (by decide) (by decide)) rfl (by first | rfl | assumption | exact hM.rf (by decide) rfl) ?_
      refine zJ_iload dX9_openedOf_80 rfl ?_
      refine zJ_ialdN (i := k.1) (v := (nI (T.2.2.1 k.1))) dX9_openedOf_82 (by first | rfl | assumption | exact hM.at (by decide) (by decide)) rfl (by omega) (by decide) (mnu k.1 hkp) ?_
      refine zJ_i2l dX9_openedOf_83 ?_
      rw [nI_l (show T.2.2.1 k.1 < 2 ^ 31 by omega)]
      refine zJ_lmul dX9_openedOf_84 ?_
      rw [lN_mul]
      have hvn : v * T.2.2.1 k.1 ≤ 1000000000 * 9999 := Nat.mul_le_mul hv hnu
      refine zJ_ldc2 dX9_openedOf_85 kX9_370 ?_
      refine zJ_ldiv dX9_openedOf_88 (by decide) ?_
      rw [show (1000 : Int64) = lN 1000 from rfl, lN_div (by omega) (by decide)]
      rw [show zop1 T k v = v * T.2.2.1 k.1 / 1000 by simp only [zop1, zsh, hmb, hs, if_false]; rfl] at hQ
      exact zJ_lret dX9_openedOf_89 rfl (by decide) (by decide) hQ
    · rw [hs]
      refine zJ_tableOut (tgt := 90) dX9_openedOf_25 (Or.inr (by decide)) (by decide) ?_
      have hbx := hB x k hx hs
      cases hz : zcC T k with
      | none =>
        rw [hz] at hbx
        refine zJ_aload_n dX9_openedOf_90 rfl ?_
        refine zJ_getr (j := 152) dX9_openedOf_91 fX9_83 (by first | rfl | assumption | exact hM.at (by decide) (by decide)) rfl (by first | rfl | assumption | exact hM.rf (by decide) rfl) ?_
        refine zJ_iload_n dX9_openedOf_94 rfl ?_
        refine zJ_ialdN (i := x) (v := (-1)) dX9_openedOf_95 (by first | rfl | assumption | exact hM.at (by decide) (by decide)) rfl (by omega) (by decide) hbx ?_
        refine zJ_iconst (v := (-1)) dX9_openedOf_96 (by decide) ?_
        refine zJ_icmp_ne (tgt := 104) dX9_openedOf_97 (by decide) (fun h9 => False.elim (by revert h9; decide)) (fun _ => ?_)
        refine zJ_lload_n dX9_openedOf_100 rfl ?_
        refine zJ_goto (tgt := 105) dX9_openedOf_101 (by decide) ?_
        rw [all (by simp only [zsh, hmb, hs, hz, if_false]; rfl)] at hQ
        exact zJ_lret dX9_openedOf_105 rfl (by decide) (by decide) hQ
      | some q =>
        rw [hz] at hbx
        have hq8 := (zcC_may hz).1
        refine zJ_aload_n dX9_openedOf_90 rfl ?_
        refine zJ_getr (j := 152) dX9_openedOf_91 fX9_83 (by first | rfl | assumption | exact hM.at (by decide) (by decide)) rfl (by first | rfl | assumption | exact hM.rf (by decide) rfl) ?_
        refine zJ_iload_n dX9_openedOf_94 rfl ?_
        refine zJ_ialdN (i := x) (v := (nI q)) dX9_openedOf_95 (by first | rfl | assumption | exact hM.at (by decide) (by decide)) rfl (by omega) (by decide) hbx ?_
        refine zJ_iconst (v := (-1)) dX9_openedOf_96 (by decide) ?_
        refine zJ_icmp_ne (tgt := 104) dX9_openedOf_97 (by decide) (fun h97e => ?_) (fun h9 => absurd h9 (nI_m1 (show q < 2 ^ 31 by omega)))
        refine zJ_lconst (v := 0) dX9_openedOf_104 (by decide) ?_
        rw [non (by simp only [zsh, hmb, hs, hz, if_false]; rfl)] at hQ
        exact zJ_lret dX9_openedOf_105 rfl (by decide) (by decide) hQ
  · have hmb : zmb T k = 0 := Classical.byContradiction fun h => by
      have h1 := zwS_pos h
      have := (nI_eq (b := 0) (by omega) (by decide)).mp h13
      omega
    rw [all (by simp only [zsh, hmb, if_true])] at hQ
    refine zJ_lload_n dX9_openedOf_16 rfl ?_
    exact zJ_lret dX9_openedOf_17 rfl (by decide) (by decide) hQ
def zTm (w : zW) (K : List zKy) (t : zKy → Nat) : Prop := ∀ (z : Nat) (q : zKy), K[z]? = some q → w.2.2.1 153 z = lN (t q)
def zCm (w : zW) (c : Nat → Nat) : Prop := ∀ i, i < 96 → w.2.2.1 154 i = lN (c i)
theorem zTm.fm {w c : zW} {K : List zKy} {t : zKy → Nat} {l : List Nat} (h : zTm w K t) (hf : zFM l w c) (hd : 53 ∉ l) : zTm c K t := fun z q hz => (hf.al (k := 53) hd (by decide)).trans (h z q hz)
theorem zCm.fm {w c : zW} {f : Nat → Nat} {l : List Nat} (h : zCm w f) (hf : zFM l w c) (hd : 54 ∉ l) : zCm c f := fun i hi => (hf.al (k := 54) hd (by decide)).trans (h i hi)
/-- the last that it may be sent to -/
def zlt (T : zTo) (k : zKy) : Nat → Option Nat
  | 0 => none
  | n + 1 => if zmay T k n then some n else zlt T k n
theorem zlt_iff {T : zTo} {k : zKy} : ∀ n y, zlt T k n = some y ↔ (y < n ∧ zmay T k y = true ∧ ∀ z, y < z → z < n → zmay T k z = false)
  | 0, y => by simp [zlt]
  | n + 1, y => by
    have ih := zlt_iff (T := T) (k := k) n y
    simp only [zlt]
    cases hm : zmay T k n with
    | true =>
      simp only [if_true]
      constructor
      · intro h; cases h
        exact ⟨by omega, hm, fun z h1 h2 => absurd h2 (by omega)⟩
      · rintro ⟨h1, h2, h3⟩
        by_cases hy : y = n
        · rw [hy]
        · have := h3 n (by omega) (by omega)
          rw [hm] at this; cases this
    | false =>
      simp only [Bool.false_eq_true, if_false]
      rw [ih]
      constructor
      · rintro ⟨h1, h2, h3⟩
        refine ⟨by omega, h2, fun z a b => ?_⟩
        by_cases hz : z = n
        · rw [hz]; exact hm
        · exact h3 z a (by omega)
      · rintro ⟨h1, h2, h3⟩
        have hyn : ¬ y = n := fun h => by rw [h, hm] at h2; cases h2
        exact ⟨by omega, h2, fun z a b => h3 z a (by omega)⟩
theorem top_bit {B y : Nat} (hB : B < 256) (hy : y < 8) (hb : B.testBit y = true) : B / 2 ^ y = 1 ↔ ∀ z, y < z → z < 8 → B.testBit z = false := by
  have h1 : 2 ^ y ≤ B := Nat.le_of_not_lt fun h => by
    rw [Nat.testBit_lt_two_pow h] at hb; cases hb
  have h0 : 0 < 2 ^ y := Nat.two_pow_pos y
  constructor
  · intro h z hz hz8
    refine Nat.testBit_lt_two_pow ?_
    have h2 : B < 2 ^ y * 2 := by
      have := Nat.div_add_mod B (2 ^ y)
      have := Nat.mod_lt B h0
      rw [h] at *
      omega
    exact Nat.lt_of_lt_of_le h2 (by rw [← Nat.pow_succ]; exact Nat.pow_le_pow_right (by decide) hz)
  · intro h
    have h2 : B < 2 ^ (y + 1) := Nat.lt_pow_two_of_testBit _ (fun i hi => by
      by_cases h8 : i < 8
      · exact h i (by omega) h8
      · exact Nat.testBit_lt_two_pow (Nat.lt_of_lt_of_le hB (Nat.pow_le_pow_right (n := 2) (by decide) (show 8 ≤ i by omega))))
    rw [Nat.pow_succ] at h2
    exact Nat.div_eq_of_lt_le (by omega) (by omega)
theorem zlt_top {T : zTo} (hT : zTok T) {k : zKy} (hk : k.1 < 8) {y : Nat} (hy : y < 8) (hm : zmay T k y = true) : (zlt T k (T.1 0) = some y) ↔ zmb T k / 2 ^ y = 1 := by
  rw [top_bit (zmb_lt T k) hy (by rw [zmb_tb T k hy]; exact hm), zlt_iff]
  have hyp : y < T.1 0 := Nat.lt_of_not_le fun h => by rw [zmay_no hT hk h hy] at hm; cases hm
  have h0 := hT.1
  constructor
  · rintro ⟨-, -, h⟩ z h1 h2
    rw [zmb_tb T k h2]
    by_cases hz : z < T.1 0
    · exact h z h1 hz
    · exact zmay_no hT hk (by omega) h2
  · intro h
    exact ⟨hyp, hm, fun z h1 h2 => by rw [← zmb_tb T k (show z < 8 by omega)]; exact h z h1 (by omega)⟩
theorem zds_pp {T : zTo} (hT : zTok T) {k : zKy} (hk : k.1 < 8) {sn : Nat} {t : zKy → Nat} : zds T k sn t (T.1 0) = zds T k sn t 8 := by
  have h0 := hT.1
  have : ∀ d, T.1 0 + d ≤ 8 → zds T k sn t (T.1 0 + d) = zds T k sn t (T.1 0) := by
    intro d
    induction d with
    | zero => intro _; rfl
    | succ d ih =>
      intro hd
      rw [← ih (by omega), show T.1 0 + (d + 1) = (T.1 0 + d) + 1 by omega]
      have : (ztb T k (zcC T k)).testBit (T.1 0 + d) = false := Bool.eq_false_iff.mpr fun h => by
        have := ztb_may (show T.1 0 + d < 8 by omega) h
        rw [zmay_no hT hk (by omega) (by omega)] at this; cases this
      simp only [zds, this, Bool.false_eq_true, if_false]
  have := this (8 - T.1 0) (by omega)
  rw [show T.1 0 + (8 - T.1 0) = 8 by omega] at this
  exact this.symm
/-- what is left is opened by whom there is nobody to send it to -/
theorem zwt_0 {T : zTo} {k : zKy} (h : zwt T k.1 (ztb T k (zcC T k)) 8 = 0) : zsh T k (zcC T k) = 1000 := by
  by_cases h3 : T.2.1 k.1 = 3
  · cases hz : zcC T k with
    | none =>
      simp only [zsh, h3]
      split
      · rfl
      · rfl
    | some q =>
      rw [hz] at h
      have hb2 : ztb T k (some q) = 2 ^ q := by simp only [ztb, h3, if_true]
      rw [hb2] at h
      simp only [zwt, zwu, h3, if_true] at h
      rw [sm_one, if_pos (zcC_may hz).1] at h
      cases h
  · have hb : ztb T k (zcC T k) = zmb T k := by simp only [ztb, h3, if_false]
    rw [hb, zwt_mb h3] at h
    have hmb : zmb T k = 0 := Classical.byContradiction fun h9 => by
      have := zwS_pos h9; omega
    simp only [zsh, hmb, if_true]
/-- what goes to y, as the model reckons it -/
theorem zpt_best {T : zTo} {k : zKy} {q sn : Nat} (h3 : T.2.1 k.1 = 3) (hz : zcC T k = some q) : zpt T k sn q = sn := by
  have hb2 : ztb T k (zcC T k) = 2 ^ q := by simp only [ztb, h3, if_true, hz]
  have h1 : 2 ^ q / 2 ^ q = 1 := Nat.div_self (Nat.two_pow_pos q)
  have h2 : zps T k sn q = 0 := by
    simp only [zps, hb2]
    rw [sm_one, if_neg (Nat.lt_irrefl q)]
  simp only [zpt, hb2, h1, if_true, h2, Nat.sub_zero]
set_option maxRecDepth 100000 in
theorem c_Mo_spreads (Δ : zD) (w : zW) (T : zTo) (K : List zKy) (hK : zMK w T K) (hT : zTok T) (hB : zBm w T K) : zMp Δ 3 yX9_spreads mX9_spreads [.ref 100] w (fun r c => r = none ∧ zFM [53, 54] w c ∧ zCm c (zcas T K)) := by
  refine zMp.of mfX9_spreads (Nat.le_of_ble_eq_true rfl) (fun QR hQ => ?_)
  have hK0 := hK
  obtain ⟨hA, hN, hall, hch⟩ := hK
  have hA0 := hA
  obtain ⟨hM, m1, m3, m4, m5, m6, m7, m46, m9, m47, mso, mnu, mwt⟩ := hA
  have hT0 := hT
  obtain ⟨hp0, hp5, hp6, hp7, hp8, hp9, hp10, hp11, hp12, hp13, hpp, hpw⟩ := hT
  have hKR := hN.2.2.1
  have hnd := zall_nodup hall
  have hsz := hN.2.1
  have M9 : ∀ c, zFM [53, 54] w c → zMs c := fun c h => hM.fm h
  have K9 : ∀ c, zFM [53, 54] w c → zMK c T K := fun c h => hK0.fm h (by decide)
  have LX : ∀ n, n ≤ K.length → ∀ c, zFM [53, 54] w c → c.2.1 = w.2.1 → zTm c K (zsn T K n).1 → zCm c (zsn T K n).2 → zJ Δ mX9_spreads (zRm 3 0 0) true w.1 QR (fun _ _ => False) 0 0 56 [(1, .int (nI n)), (0, .ref 100)] [] c := by
    refine zup (fun n hn ih c hf hci hTm hCm => ?_)
    have M_c := M9 c hf
    have hKc := K9 c hf
    have hBc : zBm c T K := hB.fm hf (by decide)
    obtain ⟨-, m1_c, m3_c, m4_c, m5_c, m6_c, m7_c, m46_c, m9_c, m47_c, mso_c, mnu_c, mwt_c⟩ := hKc.1
    have hszc := hKc.2.1.2.1
    refine zJ_iload_n dX9_spreads_56 rfl ?_
    refine zJ_aload_n dX9_spreads_57 rfl ?_
    refine zJ_getiN dX9_spreads_58 fX9_354 (by first | rfl | assumption | exact M_c.at (by decide) (by decide)) rfl hszc ?_
    refine zJ_icmp_ge (tgt := 324) dX9_spreads_61 (by decide) (fun h61 => ?_) (fun h61 => ?_)
    · have hj9 : n = K.length := Nat.le_antisymm hn ((nI_leI (by omega) (by omega)).mp h61)
      subst hj9
      exact zJ_vret dX9_spreads_324 rfl (by decide) (by decide) (hQ _ _ ⟨rfl, hf, hCm⟩)
    · have hn9 : n < K.length := Nat.lt_of_not_le fun hq9 => h61 ((nI_leI (by omega) (by omega)).mpr hq9)
      obtain ⟨k, hx⟩ : ∃ k, K[n]? = some k := ⟨_, List.getElem?_eq_getElem hn9⟩
      obtain ⟨hk, hkp⟩ := hN.2.2.2 k (List.mem_iff_getElem?.mpr ⟨n, hx⟩)
      have hk1 := hk.1
      have hk2 := hk.2.1
      have hso := (hpp k.1).1
      obtain ⟨y1, y2, y3, y4⟩ := hKc.2.1.1 n k hx
      have hv := zsn_le hT0 hnd hx
      have hsn : zsn T K (n + 1) = zsp T k (zsn T K n) := by simp only [zsn, hx]
      generalize hs : zsn T K n = S at hTm hCm hv hsn
      have hop := zop1_le hT0 k (S.1 k)
      have hvk := hTm n k hx
      have hix : k.1 * 12 + (k.2.1 - 1) < 96 := by omega
      have hcv := hCm _ hix
      have hwb : zwS T k ≤ 8 * 99 := fb_sm_bound (fun y hy => by
        try simp only
        split
        · exact (hpw k.1 y hk1 (by omega)).1
        · omega)
      generalize hop9 : zop1 T k (S.1 k) = op at hop
      have hfd : zFM [53, 54] c (zsl c 154 (k.1 * 12 + (k.2.1 - 1)) (lN (S.2 (k.1 * 12 + (k.2.1 - 1)) + op))) := zFM.l (by first | decide | exact Or.inr (by decide))
      have hTd : zTm (zsl c 154 (k.1 * 12 + (k.2.1 - 1)) (lN (S.2 (k.1 * 12 + (k.2.1 - 1)) + op))) K S.1 := fun z q hz => by rw [← hTm z q hz]; simp [zsl]
      have hCd : zCm (zsl c 154 (k.1 * 12 + (k.2.1 - 1)) (lN (S.2 (k.1 * 12 + (k.2.1 - 1)) + op))) (zsp T k S).2 := fun i hi => by
        simp only [zsp, hop9]
        by_cases h : i = k.1 * 12 + (k.2.1 - 1)
        · subst h; simp [zsl]
        · simp only [h, if_false]; rw [← hCm i hi]; simp [zsl, h]
      have hsub : S.1 k - op ≤ 1000000000 := by omega
      generalize hsn9 : S.1 k - op = sn at hsub
      have hend : ∀ e, zFM [53, 54] w e → e.2.1 = w.2.1 → zTm e K (zsp T k S).1 → zCm e (zsp T k S).2 → zJ Δ mX9_spreads (zRm 3 0 0) true w.1 QR (fun _ _ => False) 0 0 318 [(1, .int (nI n)), (0, .ref 100)] [] e := by
        intro e he hei h1 h2
        refine zJ_iinc (ls2 := fun x318z => [(1, .int x318z), (0, .ref 100)]) dX9_spreads_318 rfl (by decide) (fun _ => rfl) (fun x318z ex318z => ?_)
        refine zJ_goto (tgt := 56) dX9_spreads_321 (by decide) ?_
        rw [ex318z, show nI n + Int32.ofInt 1 = nI (n + 1) from nI_1 _]
        exact ih (n + 1) (by omega) (by omega) e he hei (by rw [hsn]; exact h1) (by rw [hsn]; exact h2)
      have LB : 0 < sn → ∀ j, j ≤ T.1 0 → ∀ (e : zW), zFM [53, 54] w e → e.2.1 = w.2.1 → zTm e K (zds T k sn S.1 j) → zCm e (zsp T k S).2 → zJ Δ mX9_spreads (zRm 3 0 0) true w.1 QR (fun _ _ => False) 0 0 168 [(10, .int (nI j)), (9, .int (zoi (zlt T k (T.1 0)))), (8, .int (nI (zwS T k))), (6, .long (lN sn)), (4, .long (lN (sn - zqs T k sn j))), (2, .long (lN op)), (1, .int (nI n)), (0, .ref 100)] [] e := by
        intro hpos
        have hU : 0 < zwt T k.1 (ztb T k (zcC T k)) 8 := Nat.pos_of_ne_zero fun h => by
          have h1 := zwt_0 h
          have : op = S.1 k := by rw [← hop9]; simp only [zop1, h1]; omega
          omega
        refine zup (fun j hj ihj e he hei hTe hCe => ?_)
        have M_e := M9 e he
        have hKe := K9 e he
        obtain ⟨-, m1_e, m3_e, m4_e, m5_e, m6_e, m7_e, m46_e, m9_e, m47_e, mso_e, mnu_e, mwt_e⟩ := hKe.1
        obtain ⟨y1e, y2e, y3e, y4e⟩ := hKe.2.1.1 n k hx
        refine zJ_iload dX9_spreads_168 rfl ?_
        refine zJ_aload_n dX9_spreads_170 rfl ?_
        refine zJ_getiN dX9_spreads_171 fX9_298 (by first | rfl | assumption | exact M_e.at (by decide) (by decide)) rfl m1_e ?_
        refine zJ_icmp_ge (tgt := 318) dX9_spreads_174 (by decide) (fun h174 => ?_) (fun h174 => ?_)
        · have hj9 : j = T.1 0 := Nat.le_antisymm hj ((nI_leI (by omega) (by omega)).mp h174)
          refine zJ_ls [(1, .int (nI n)), (0, .ref 100)] (by simp) (hend e he hei ?_ hCe)
          have : ¬ (S.1 k - zop1 T k (S.1 k) = 0 ∨ zwt T k.1 (ztb T k (zcC T k)) 8 = 0) := by rw [hop9, hsn9]; omega
          simp only [zsp, this, if_false]
          rw [hop9, hsn9, ← zds_pp hT0 hk1, ← hj9]
          exact hTe
        · refine zJ_lload dX9_spreads_177 rfl ?_
          refine zJ_lconst (v := 0) dX9_spreads_179 (by decide) ?_
          refine zJ_lc_le (tgt := 318) dX9_spreads_180 dX9_spreads_181 (by decide) (fun h181 => ?_) (fun h181 => ?_)
          · exact absurd h181 (Int64.not_le.mpr ((lN_ltL (a := 0) (by decide) (by omega)).mpr hpos))
          · have hj9 : j < T.1 0 := Nat.lt_of_not_le fun hq9 => h174 ((nI_leI (by omega) (by omega)).mpr hq9)
            cases hmy : zmay T k j with
            | true =>
              obtain ⟨c9, hc1, hc2, hc3, hc4, hc5⟩ := hKe.c hx (by omega) hmy
              have J291 : ∀ (xb : Int32) (pt : Nat), (((ztb T k (zcC T k)).testBit j = true ∧ pt = zpt T k sn j) ∨ ((ztb T k (zcC T k)).testBit j = false ∧ pt = 0)) → zJ Δ mX9_spreads (zRm 3 0 0) true w.1 QR (fun _ _ => False) 0 0 291 [(12, .int xb), (11, .int (nI c9)), (10, .int (nI j)), (9, .int (zoi (zlt T k (T.1 0)))), (8, .int (nI (zwS T k))), (6, .long (lN sn)), (4, .long (lN (sn - zqs T k sn j))), (2, .long (lN op)), (1, .int (nI n)), (0, .ref 100)] [.long (lN pt)] e := by
                intro xb pt hpt
                have hq1 : zqs T k sn (j + 1) = zqs T k sn j + pt := by
                  rcases hpt with ⟨h1, h2⟩ | ⟨h1, h2⟩
                  · rw [h2]; simp [zqs, fb_sm_succ, h1]
                  · rw [h2]; simp [zqs, fb_sm_succ, h1]
                have hq2 := (zqs_le (sn := sn) hU (j + 1) (by omega)).2
                refine zJ_lstore (ls2 := fun x291q => [(13, .long x291q), (12, .int xb), (11, .int (nI c9)), (10, .int (nI j)), (9, .int (zoi (zlt T k (T.1 0)))), (8, .int (nI (zwS T k))), (6, .long (lN sn)), (4, .long (lN (sn - zqs T k sn j))), (2, .long (lN op)), (1, .int (nI n)), (0, .ref 100)]) dX9_spreads_291 (by decide) (fun _ => rfl) (fun x291q ex291q => ?_)
                obtain rfl : x291q = (lN pt) := ex291q
                refine zJ_lload dX9_spreads_293 rfl ?_
                refine zJ_lload dX9_spreads_295 rfl ?_
                refine zJ_lsub dX9_spreads_297 ?_
                refine zJ_lstore (ls2 := fun x298q => [(4, .long x298q), (13, .long (lN pt)), (12, .int xb), (11, .int (nI c9)), (10, .int (nI j)), (9, .int (zoi (zlt T k (T.1 0)))), (8, .int (nI (zwS T k))), (6, .long (lN sn)), (2, .long (lN op)), (1, .int (nI n)), (0, .ref 100)]) dX9_spreads_298 (by decide) (fun _ => rfl) (fun x298q ex298q => ?_)
                obtain rfl : x298q = (lN (sn - zqs T k sn j - pt)) := (by rw [ex298q, lN_sub (by omega)])
                refine zJ_aload_n dX9_spreads_300 rfl ?_
                refine zJ_getr (j := 153) dX9_spreads_301 fX9_86 (by first | rfl | assumption | exact M_e.at (by decide) (by decide)) rfl (by first | rfl | assumption | exact M_e.rf (by decide) rfl) ?_
                refine zJ_iload dX9_spreads_304 rfl ?_
                refine zJ_dup2_11 dX9_spreads_306 rfl rfl ?_
                refine zJ_laldN (i := c9) (v := (lN (zds T k sn S.1 j (zbk T k j)))) dX9_spreads_307 (by first | rfl | assumption | exact M_e.at (by decide) (by decide)) rfl (by omega) (by decide) (hTe c9 _ hc1) ?_
                refine zJ_lload dX9_spreads_308 rfl ?_
                refine zJ_ladd dX9_spreads_310 ?_
                rw [lN_add]
                refine zJ_lastN (i := c9) dX9_spreads_311 (by first | rfl | assumption | exact M_e.at (by decide) (by decide)) rfl (by omega) (by decide) ?_
                refine zJ_ls [(10, .int (nI j)), (9, .int (zoi (zlt T k (T.1 0)))), (8, .int (nI (zwS T k))), (6, .long (lN sn)), (4, .long (lN (sn - zqs T k sn j - pt))), (2, .long (lN op)), (1, .int (nI n)), (0, .ref 100)] (by simp) ?_
                refine zJ_iinc (ls2 := fun x312 => [(10, .int x312), (9, .int (zoi (zlt T k (T.1 0)))), (8, .int (nI (zwS T k))), (6, .long (lN sn)), (4, .long (lN (sn - zqs T k sn j - pt))), (2, .long (lN op)), (1, .int (nI n)), (0, .ref 100)]) dX9_spreads_312 rfl (by decide) (fun _ => rfl) (fun x312 ex312 => ?_)
                refine zJ_goto (tgt := 168) dX9_spreads_315 (by decide) ?_
                rw [ex312, show nI j + Int32.ofInt 1 = nI (j + 1) from nI_1 _]
                have hff : zFM [53, 54] w (zsl e 153 c9 (lN (zds T k sn S.1 j (zbk T k j) + pt))) := he.tr (zFM.l (by first | decide | exact Or.inr (by decide)))
                rw [show sn - zqs T k sn j - pt = sn - zqs T k sn (j + 1) by omega]
                refine ihj (j + 1) (by omega) (by omega) _ hff hei ?_ ?_
                · intro z q hz
                  have hcz : z = c9 ↔ q = zbk T k j := ⟨fun h => by rw [h, hc1] at hz; exact (Option.some.inj hz).symm, fun h => nodup_ix hnd hz (by rw [h]; exact hc1)⟩
                  by_cases hzc : z = c9
                  · have hqb := hcz.mp hzc
                    subst hzc
                    rw [show (zsl e 153 z (lN (zds T k sn S.1 j (zbk T k j) + pt))).2.2.1 153 z = lN (zds T k sn S.1 j (zbk T k j) + pt) by simp [zsl], hqb]
                    rcases hpt with ⟨h1, h2⟩ | ⟨h1, h2⟩
                    · simp only [zds, h1, if_true, h2]
                    · rw [h2, Nat.add_zero]; simp [zds, h1]
                  · have hqb : ¬ q = zbk T k j := fun h => hzc (hcz.mpr h)
                    rw [show (zsl e 153 c9 (lN (zds T k sn S.1 j (zbk T k j) + pt))).2.2.1 153 z = e.2.2.1 153 z by simp [zsl, hzc], hTe z q hz]
                    rcases hpt with ⟨h1, h2⟩ | ⟨h1, h2⟩
                    · simp only [zds, h1, if_true, hqb, if_false]
                    · simp [zds, h1]
                · intro i hi
                  rw [show (zsl e 153 c9 (lN (zds T k sn S.1 j (zbk T k j) + pt))).2.2.1 154 i = e.2.2.1 154 i by simp [zsl]]
                  exact hCe i hi
              refine zJ_aload_n dX9_spreads_184 rfl ?_
              refine zJ_getr (j := 143) dX9_spreads_185 fX9_63 (by first | rfl | assumption | exact M_e.at (by decide) (by decide)) rfl (by first | rfl | assumption | exact M_e.rf (by decide) rfl) ?_
              refine zJ_bipush (v := 8) dX9_spreads_188 (by decide) ?_
              refine zJ_iload_n dX9_spreads_190 rfl ?_
              refine zJ_imul dX9_spreads_191 ?_
              refine zJ_iload dX9_spreads_192 rfl ?_
              refine zJ_iadd dX9_spreads_194 ?_
              refine zJ_ialdN (i := (n * 8 + j)) (v := (nI c9)) dX9_spreads_195 (by first | rfl | assumption | exact M_e.at (by decide) (by decide)) (na_8 _ _) (by omega) (by decide) hc2 ?_
              refine zJ_istore (ls2 := fun x196t => [(11, .int x196t), (10, .int (nI j)), (9, .int (zoi (zlt T k (T.1 0)))), (8, .int (nI (zwS T k))), (6, .long (lN sn)), (4, .long (lN (sn - zqs T k sn j))), (2, .long (lN op)), (1, .int (nI n)), (0, .ref 100)]) dX9_spreads_196 (by decide) (fun _ => rfl) (fun x196t ex196t => ?_)
              obtain rfl : x196t = (nI c9) := ex196t
              refine zJ_iload dX9_spreads_198 rfl ?_
              refine zJ_iconst (v := (-1)) dX9_spreads_200 (by decide) ?_
              refine zJ_icmp_ne (tgt := 207) dX9_spreads_201 (by decide) (fun h201t => ?_) (fun h9 => absurd h9 (nI_m1 (by omega)))
              by_cases hs3 : T.2.1 k.1 = 3
              · have hwt1 : zsh T k (zcC T k) ≠ 1000 := fun h => by
                  have : op = S.1 k := by rw [← hop9]; simp only [zop1, h]; omega
                  omega
                cases hz : zcC T k with
                | none => exact absurd (by simp only [zsh, hs3, hz]; split <;> rfl) hwt1
                | some q9 =>
                  have hq98 := (zcC_may hz).1
                  have hb2 : ztb T k (zcC T k) = 2 ^ q9 := by simp only [ztb, hs3, if_true, hz]
                  have hbq : e.2.1 152 n = nI q9 := by rw [hei]; exact (hB n k hx hs3).trans (by rw [hz]; rfl)
                  have hs3i : nI (T.2.1 k.1) = 3 := by rw [hs3]; rfl
                  refine zJ_aload_n dX9_spreads_207 rfl ?_
                  refine zJ_getr (j := 148) dX9_spreads_208 fX9_70 (by first | rfl | assumption | exact M_e.at (by decide) (by decide)) rfl (by first | rfl | assumption | exact M_e.rf (by decide) rfl) ?_
                  refine zJ_aload_n dX9_spreads_211 rfl ?_
                  refine zJ_getr (j := 139) dX9_spreads_212 fX9_50 (by first | rfl | assumption | exact M_e.at (by decide) (by decide)) rfl (by first | rfl | assumption | exact M_e.rf (by decide) rfl) ?_
                  refine zJ_iload_n dX9_spreads_215 rfl ?_
                  refine zJ_ialdN (i := n) (v := (nI k.1)) dX9_spreads_216 (by first | rfl | assumption | exact M_e.at (by decide) (by decide)) rfl (by omega) (by decide) y1e ?_
                  refine zJ_ialdN (i := k.1) (v := (nI (T.2.1 k.1))) dX9_spreads_217 (by first | rfl | assumption | exact M_e.at (by decide) (by decide)) rfl (by omega) (by decide) (mso_e k.1 hkp) ?_
                  refine zJ_iconst (v := 3) dX9_spreads_218 (by decide) ?_
                  refine zJ_icmp_ne (tgt := 226) dX9_spreads_219 (by decide) (fun h9 => absurd h9 (fun h => h hs3i)) (fun h219u => ?_)
                  refine zJ_iconst (v := 1) dX9_spreads_222 (by decide) ?_
                  refine zJ_goto (tgt := 227) dX9_spreads_223 (by decide) ?_
                  refine zJ_istore (ls2 := fun x227u => [(12, .int x227u), (11, .int (nI c9)), (10, .int (nI j)), (9, .int (zoi (zlt T k (T.1 0)))), (8, .int (nI (zwS T k))), (6, .long (lN sn)), (4, .long (lN (sn - zqs T k sn j))), (2, .long (lN op)), (1, .int (nI n)), (0, .ref 100)]) dX9_spreads_227 (by decide) (fun _ => rfl) (fun x227u ex227u => ?_)
                  obtain rfl : x227u = 1 := ex227u
                  refine zJ_iload dX9_spreads_229 rfl ?_
                  refine zJ_if_eq (tgt := 254) dX9_spreads_231 (by decide) (fun h9 => False.elim (by revert h9; decide)) (fun _ => ?_)
                  refine zJ_iload dX9_spreads_234 rfl ?_
                  refine zJ_aload_n dX9_spreads_236 rfl ?_
                  refine zJ_getr (j := 152) dX9_spreads_237 fX9_83 (by first | rfl | assumption | exact M_e.at (by decide) (by decide)) rfl (by first | rfl | assumption | exact M_e.rf (by decide) rfl) ?_
                  refine zJ_iload_n dX9_spreads_240 rfl ?_
                  refine zJ_ialdN (i := n) (v := (nI q9)) dX9_spreads_241 (by first | rfl | assumption | exact M_e.at (by decide) (by decide)) rfl (by omega) (by decide) hbq ?_
                  refine zJ_icmp_ne (tgt := 250) dX9_spreads_242 (by decide) (fun h242u => ?_) (fun h242u => ?_)
                  · refine zJ_lconst (v := 0) dX9_spreads_250 (by decide) ?_
                    refine zJ_goto (tgt := 291) dX9_spreads_251 (by decide) ?_
                    exact J291 _ 0 (Or.inr ⟨by rw [hb2, Nat.testBit_two_pow]; exact decide_eq_false (fun h => h242u (by rw [h])), rfl⟩)
                  · have hjq : j = q9 := (nI_eq (by omega) (by omega)).mp h242u
                    refine zJ_lload dX9_spreads_245 rfl ?_
                    refine zJ_goto (tgt := 291) dX9_spreads_247 (by decide) ?_
                    exact J291 _ sn (Or.inl ⟨by rw [hb2, hjq]; exact Nat.testBit_two_pow_self, by rw [hjq]; exact (zpt_best hs3 hz).symm⟩)
              · have h3n := hs3
                have hbt : ztb T k (zcC T k) = zmb T k := by simp only [ztb, hs3, if_false]
                have hbj : (ztb T k (zcC T k)).testBit j = true := by rw [hbt, zmb_tb T k (by omega)]; exact hmy
                have hs3i : ¬ nI (T.2.1 k.1) = 3 := fun h => hs3 ((nI_eq (b := 3) (by omega) (by decide)).mp h)
                have hwpos : 0 < zwS T k := by rw [← zwt_mb h3n, ← hbt]; exact hU
                have hnz : ¬ lN (zwS T k) = 0 := fun e => by
                  have := (fb_lN_inj (b := 0) (by omega) (by decide)).mp e
                  omega
                have hlast : nI j = zoi (zlt T k (T.1 0)) ↔ zlt T k (T.1 0) = some j := by
                  cases hl : zlt T k (T.1 0) with
                  | none => exact ⟨fun h => absurd h (nI_m1 (by omega)), fun h => by cases h⟩
                  | some y =>
                    have := ((zlt_iff _ _).mp hl).1
                    simp only [zoi, Option.some.injEq]
                    exact ⟨fun h => ((nI_eq (by omega) (by omega)).mp h).symm, fun h => by rw [h]⟩
                refine zJ_aload_n dX9_spreads_207 rfl ?_
                refine zJ_getr (j := 148) dX9_spreads_208 fX9_70 (by first | rfl | assumption | exact M_e.at (by decide) (by decide)) rfl (by first | rfl | assumption | exact M_e.rf (by decide) rfl) ?_
                refine zJ_aload_n dX9_spreads_211 rfl ?_
                refine zJ_getr (j := 139) dX9_spreads_212 fX9_50 (by first | rfl | assumption | exact M_e.at (by decide) (by decide)) rfl (by first | rfl | assumption | exact M_e.rf (by decide) rfl) ?_
                refine zJ_iload_n dX9_spreads_215 rfl ?_
                refine zJ_ialdN (i := n) (v := (nI k.1)) dX9_spreads_216 (by first | rfl | assumption | exact M_e.at (by decide) (by decide)) rfl (by omega) (by decide) y1e ?_
                refine zJ_ialdN (i := k.1) (v := (nI (T.2.1 k.1))) dX9_spreads_217 (by first | rfl | assumption | exact M_e.at (by decide) (by decide)) rfl (by omega) (by decide) (mso_e k.1 hkp) ?_
                refine zJ_iconst (v := 3) dX9_spreads_218 (by decide) ?_
                refine zJ_icmp_ne (tgt := 226) dX9_spreads_219 (by decide) (fun h219v => ?_) (fun h9 => absurd h9 hs3i)
                refine zJ_iconst (v := 0) dX9_spreads_226 (by decide) ?_
                refine zJ_istore (ls2 := fun x227v => [(12, .int x227v), (11, .int (nI c9)), (10, .int (nI j)), (9, .int (zoi (zlt T k (T.1 0)))), (8, .int (nI (zwS T k))), (6, .long (lN sn)), (4, .long (lN (sn - zqs T k sn j))), (2, .long (lN op)), (1, .int (nI n)), (0, .ref 100)]) dX9_spreads_227 (by decide) (fun _ => rfl) (fun x227v ex227v => ?_)
                obtain rfl : x227v = 0 := ex227v
                refine zJ_iload dX9_spreads_229 rfl ?_
                refine zJ_if_eq (tgt := 254) dX9_spreads_231 (by decide) (fun _ => ?_) (fun h9 => False.elim (by revert h9; decide))
                refine zJ_iload dX9_spreads_254 rfl ?_
                refine zJ_iload dX9_spreads_256 rfl ?_
                refine zJ_icmp_ne (tgt := 266) dX9_spreads_258 (by decide) (fun h258v => ?_) (fun h258v => ?_)
                · have hjl : ¬ zlt T k (T.1 0) = some j := fun h => h258v (hlast.mpr h)
                  refine zJ_lload dX9_spreads_266 rfl ?_
                  refine zJ_aload_n dX9_spreads_268 rfl ?_
                  refine zJ_getr (j := 112) dX9_spreads_269 fX9_29 (by first | rfl | assumption | exact M_e.at (by decide) (by decide)) rfl (by first | rfl | assumption | exact M_e.rf (by decide) rfl) ?_
                  refine zJ_bipush (v := 8) dX9_spreads_272 (by decide) ?_
                  refine zJ_aload_n dX9_spreads_274 rfl ?_
                  refine zJ_getr (j := 139) dX9_spreads_275 fX9_50 (by first | rfl | assumption | exact M_e.at (by decide) (by decide)) rfl (by first | rfl | assumption | exact M_e.rf (by decide) rfl) ?_
                  refine zJ_iload_n dX9_spreads_278 rfl ?_
                  refine zJ_ialdN (i := n) (v := (nI k.1)) dX9_spreads_279 (by first | rfl | assumption | exact M_e.at (by decide) (by decide)) rfl (by omega) (by decide) y1e ?_
                  refine zJ_imul dX9_spreads_280 ?_
                  refine zJ_iload dX9_spreads_281 rfl ?_
                  refine zJ_iadd dX9_spreads_283 ?_
                  refine zJ_ialdN (i := (k.1 * 8 + j)) (v := (nI (T.2.2.2 (k.1 * 8 + j)))) dX9_spreads_284 (by first | rfl | assumption | exact M_e.at (by decide) (by decide)) (na_8 _ _) (by omega) (by decide) (mwt_e k.1 j hkp hj9) ?_
                  refine zJ_i2l dX9_spreads_285 ?_
                  rw [nI_l (show T.2.2.2 (k.1 * 8 + j) < 2 ^ 31 by have := (hpw k.1 j hk1 (by omega)).1; omega)]
                  have hmw : sn * T.2.2.2 (k.1 * 8 + j) ≤ 1000000000 * 99 := Nat.mul_le_mul hsub (hpw k.1 j hk1 (by omega)).1
                  refine zJ_lmul dX9_spreads_286 ?_
                  refine zJ_iload dX9_spreads_287 rfl ?_
                  refine zJ_i2l dX9_spreads_289 ?_
                  rw [nI_l (show zwS T k < 2 ^ 31 by omega)]
                  refine zJ_ldiv dX9_spreads_290 hnz ?_
                  rw [lN_mul, lN_div (by omega) (by omega)]
                  exact J291 _ _ (Or.inl ⟨hbj, by simp only [zpt]; rw [hbt, if_neg (fun h => hjl ((zlt_top hT0 hk1 (by omega) hmy).mpr h)), zwt_mb h3n]; simp only [zwu, h3n, if_false]⟩)
                · have hjl : zlt T k (T.1 0) = some j := hlast.mp h258v
                  refine zJ_lload dX9_spreads_261 rfl ?_
                  refine zJ_goto (tgt := 291) dX9_spreads_263 (by decide) ?_
                  exact J291 _ _ (Or.inl ⟨hbj, by
                    have h1 := (zlt_top hT0 hk1 (by omega) hmy).mp hjl
                    simp only [zpt]; rw [hbt, if_pos h1, (zqs_le (sn := sn) hU j (by omega)).1 (by rw [hbt, h1]; exact Nat.le_refl 1)]⟩)
            | false =>
              refine zJ_aload_n dX9_spreads_184 rfl ?_
              refine zJ_getr (j := 143) dX9_spreads_185 fX9_63 (by first | rfl | assumption | exact M_e.at (by decide) (by decide)) rfl (by first | rfl | assumption | exact M_e.rf (by decide) rfl) ?_
              refine zJ_bipush (v := 8) dX9_spreads_188 (by decide) ?_
              refine zJ_iload_n dX9_spreads_190 rfl ?_
              refine zJ_imul dX9_spreads_191 ?_
              refine zJ_iload dX9_spreads_192 rfl ?_
              refine zJ_iadd dX9_spreads_194 ?_
              refine zJ_ialdN (i := (n * 8 + j)) (v := (-1)) dX9_spreads_195 (by first | rfl | assumption | exact M_e.at (by decide) (by decide)) (na_8 _ _) (by omega) (by decide) (hKe.n hx (by omega) hmy) ?_
              refine zJ_istore (ls2 := fun x196f => [(11, .int x196f), (10, .int (nI j)), (9, .int (zoi (zlt T k (T.1 0)))), (8, .int (nI (zwS T k))), (6, .long (lN sn)), (4, .long (lN (sn - zqs T k sn j))), (2, .long (lN op)), (1, .int (nI n)), (0, .ref 100)]) dX9_spreads_196 (by decide) (fun _ => rfl) (fun x196f ex196f => ?_)
              obtain rfl : x196f = (-1) := ex196f
              refine zJ_iload dX9_spreads_198 rfl ?_
              refine zJ_iconst (v := (-1)) dX9_spreads_200 (by decide) ?_
              refine zJ_icmp_ne (tgt := 207) dX9_spreads_201 (by decide) (fun h9 => False.elim (by revert h9; decide)) (fun _ => ?_)
              refine zJ_goto (tgt := 312) dX9_spreads_204 (by decide) ?_
              refine zJ_ls [(10, .int (nI j)), (9, .int (zoi (zlt T k (T.1 0)))), (8, .int (nI (zwS T k))), (6, .long (lN sn)), (4, .long (lN (sn - zqs T k sn j))), (2, .long (lN op)), (1, .int (nI n)), (0, .ref 100)] (by simp) ?_
              refine zJ_iinc (ls2 := fun x312 => [(10, .int x312), (9, .int (zoi (zlt T k (T.1 0)))), (8, .int (nI (zwS T k))), (6, .long (lN sn)), (4, .long (lN (sn - zqs T k sn j))), (2, .long (lN op)), (1, .int (nI n)), (0, .ref 100)]) dX9_spreads_312 rfl (by decide) (fun _ => rfl) (fun x312 ex312 => ?_)
              refine zJ_goto (tgt := 168) dX9_spreads_315 (by decide) ?_
              rw [ex312, show nI j + Int32.ofInt 1 = nI (j + 1) from nI_1 _]
              have hnb : ¬ (ztb T k (zcC T k)).testBit j = true := fun h => by rw [ztb_may (by omega) h] at hmy; cases hmy
              rw [show zqs T k sn j = zqs T k sn (j + 1) by simp [zqs, fb_sm_succ, hnb]]
              refine ihj (j + 1) (by omega) (by omega) e he hei ?_ hCe
              simp only [zds, hnb, if_false]; exact hTe
      have LA : ∀ j, j ≤ T.1 0 → zJ Δ mX9_spreads (zRm 3 0 0) true w.1 QR (fun _ _ => False) 0 0 130 [(10, .int (nI j)), (9, .int (zoi (zlt T k j))), (8, .int (nI (zwS T k))), (6, .long (lN sn)), (4, .long (lN sn)), (2, .long (lN op)), (1, .int (nI n)), (0, .ref 100)] [] (zsl c 154 (k.1 * 12 + (k.2.1 - 1)) (lN (S.2 (k.1 * 12 + (k.2.1 - 1)) + op))) := by
        have hMd : zMs (zsl c 154 (k.1 * 12 + (k.2.1 - 1)) (lN (S.2 (k.1 * 12 + (k.2.1 - 1)) + op))) := M_c
        have hKd : zMK (zsl c 154 (k.1 * 12 + (k.2.1 - 1)) (lN (S.2 (k.1 * 12 + (k.2.1 - 1)) + op))) T K := K9 _ (hf.tr hfd)
        refine zup (fun j hj ihj => ?_)
        refine zJ_iload dX9_spreads_130 rfl ?_
        refine zJ_aload_n dX9_spreads_132 rfl ?_
        refine zJ_getiN dX9_spreads_133 fX9_298 (by first | rfl | assumption | exact hMd.at (by decide) (by decide)) rfl m1_c ?_
        refine zJ_icmp_ge (tgt := 165) dX9_spreads_136 (by decide) (fun h136 => ?_) (fun h136 => ?_)
        · have hj9 : j = T.1 0 := Nat.le_antisymm hj ((nI_leI (by omega) (by omega)).mp h136)
          rw [hj9]
          refine zJ_iconst (v := 0) dX9_spreads_165 (by decide) ?_
          refine zJ_istore (ls2 := fun x166 => [(10, .int x166), (9, .int (zoi (zlt T k (T.1 0)))), (8, .int (nI (zwS T k))), (6, .long (lN sn)), (4, .long (lN sn)), (2, .long (lN op)), (1, .int (nI n)), (0, .ref 100)]) dX9_spreads_166 (by decide) (fun _ => rfl) (fun x166 ex166 => ?_)
          rw [ex166]
          by_cases hpos : 0 < sn
          · have := LB hpos 0 (Nat.zero_le _) _ (hf.tr hfd) hci hTd hCd
            rw [show sn - zqs T k sn 0 = sn from Nat.sub_zero sn] at this
            exact this
          · have hs0 : sn = 0 := by omega
            have hzs : (zsp T k S).1 = S.1 := by simp only [zsp]; rw [if_pos (Or.inl (by rw [hop9, hsn9]; exact hs0))]
            have fin := hend _ (hf.tr hfd) hci (by rw [hzs]; exact hTd) hCd
            refine zJ_iload dX9_spreads_168 rfl ?_
            refine zJ_aload_n dX9_spreads_170 rfl ?_
            refine zJ_getiN dX9_spreads_171 fX9_298 (hMd.at (by decide) (by decide)) rfl m1_c ?_
            refine zJ_icmp_ge (tgt := 318) dX9_spreads_174 (by decide) (fun _ => zJ_ls [(1, .int (nI n)), (0, .ref 100)] (by simp) fin) (fun _ => ?_)
            refine zJ_lload dX9_spreads_177 rfl ?_
            refine zJ_lconst (v := 0) dX9_spreads_179 (by decide) ?_
            refine zJ_lc_le (tgt := 318) dX9_spreads_180 dX9_spreads_181 (by decide) (fun _ => zJ_ls [(1, .int (nI n)), (0, .ref 100)] (by simp) fin) (fun h9 => absurd (by rw [hs0]; exact Int64.le_refl _) h9)
        · have hj9 : j < T.1 0 := Nat.lt_of_not_le fun hq9 => h136 ((nI_leI (by omega) (by omega)).mpr hq9)
          cases hmy : zmay T k j with
          | true =>
            obtain ⟨c9, hc1, hc2, hc3, hc4, hc5⟩ := hKd.c hx (by omega) hmy
            refine zJ_aload_n dX9_spreads_139 rfl ?_
            refine zJ_getr (j := 143) dX9_spreads_140 fX9_63 (by first | rfl | assumption | exact hMd.at (by decide) (by decide)) rfl (by first | rfl | assumption | exact hMd.rf (by decide) rfl) ?_
            refine zJ_bipush (v := 8) dX9_spreads_143 (by decide) ?_
            refine zJ_iload_n dX9_spreads_145 rfl ?_
            refine zJ_imul dX9_spreads_146 ?_
            refine zJ_iload dX9_spreads_147 rfl ?_
            refine zJ_iadd dX9_spreads_149 ?_
            refine zJ_ialdN (i := (n * 8 + j)) (v := (nI c9)) dX9_spreads_150 (by first | rfl | assumption | exact hMd.at (by decide) (by decide)) (na_8 _ _) (by omega) (by decide) hc2 ?_
            refine zJ_iconst (v := (-1)) dX9_spreads_151 (by decide) ?_
            refine zJ_icmp_eq (tgt := 159) dX9_spreads_152 (by decide) (fun h9 => absurd h9 (nI_m1 (by omega))) (fun h152t => ?_)
            refine zJ_iload dX9_spreads_155 rfl ?_
            refine zJ_istore (ls2 := fun x157t => [(9, .int x157t), (10, .int (nI j)), (8, .int (nI (zwS T k))), (6, .long (lN sn)), (4, .long (lN sn)), (2, .long (lN op)), (1, .int (nI n)), (0, .ref 100)]) dX9_spreads_157 (by decide) (fun _ => rfl) (fun x157t ex157t => ?_)
            refine zJ_iinc (ls2 := fun x159t => [(10, .int x159t), (9, .int x157t), (8, .int (nI (zwS T k))), (6, .long (lN sn)), (4, .long (lN sn)), (2, .long (lN op)), (1, .int (nI n)), (0, .ref 100)]) dX9_spreads_159 rfl (by decide) (fun _ => rfl) (fun x159t ex159t => ?_)
            refine zJ_goto (tgt := 130) dX9_spreads_162 (by decide) ?_
            refine zJ_ls [(10, .int x159t), (9, .int x157t), (8, .int (nI (zwS T k))), (6, .long (lN sn)), (4, .long (lN sn)), (2, .long (lN op)), (1, .int (nI n)), (0, .ref 100)] (by simp) ?_
            rw [ex159t, show nI j + Int32.ofInt 1 = nI (j + 1) from nI_1 _]
            rw [ex157t, show nI j = zoi (zlt T k (j + 1)) by simp only [zlt, hmy, if_true]; rfl]
            exact ihj (j + 1) (by omega) (by omega)
          | false =>
            refine zJ_aload_n dX9_spreads_139 rfl ?_
            refine zJ_getr (j := 143) dX9_spreads_140 fX9_63 (by first | rfl | assumption | exact hMd.at (by decide) (by decide)) rfl (by first | rfl | assumption | exact hMd.rf (by decide) rfl) ?_
            refine zJ_bipush (v := 8) dX9_spreads_143 (by decide) ?_
            refine zJ_iload_n dX9_spreads_145 rfl ?_
            refine zJ_imul dX9_spreads_146 ?_
            refine zJ_iload dX9_spreads_147 rfl ?_
            refine zJ_iadd dX9_spreads_149 ?_
            refine zJ_ialdN (i := (n * 8 + j)) (v := (-1)) dX9_spreads_150 (by first | rfl | assumption | exact hMd.at (by decide) (by decide)) (na_8 _ _) (by omega) (by decide) (hKd.n hx (by omega) hmy) ?_
            refine zJ_iconst (v := (-1)) dX9_spreads_151 (by decide) ?_
            refine zJ_icmp_eq (tgt := 159) dX9_spreads_152 (by decide) (fun _ => ?_) (fun h9 => False.elim (by revert h9; decide))
            refine zJ_iinc (ls2 := fun x159f => [(10, .int x159f), (9, .int (zoi (zlt T k j))), (8, .int (nI (zwS T k))), (6, .long (lN sn)), (4, .long (lN sn)), (2, .long (lN op)), (1, .int (nI n)), (0, .ref 100)]) dX9_spreads_159 rfl (by decide) (fun _ => rfl) (fun x159f ex159f => ?_)
            refine zJ_goto (tgt := 130) dX9_spreads_162 (by decide) ?_
            refine zJ_ls [(10, .int x159f), (9, .int (zoi (zlt T k j))), (8, .int (nI (zwS T k))), (6, .long (lN sn)), (4, .long (lN sn)), (2, .long (lN op)), (1, .int (nI n)), (0, .ref 100)] (by simp) ?_
            rw [ex159f, show nI j + Int32.ofInt 1 = nI (j + 1) from nI_1 _]
            rw [show zlt T k j = zlt T k (j + 1) by simp [zlt, hmy]]
            exact ihj (j + 1) (by omega) (by omega)
      refine zJ_aload_n dX9_spreads_64 rfl ?_
      refine zJ_iload_n dX9_spreads_65 rfl ?_
      refine zJ_aload_n dX9_spreads_66 rfl ?_
      refine zJ_getr (j := 153) dX9_spreads_67 fX9_86 (by first | rfl | assumption | exact M_c.at (by decide) (by decide)) rfl (by first | rfl | assumption | exact M_c.rf (by decide) rfl) ?_
      refine zJ_iload_n dX9_spreads_70 rfl ?_
      refine zJ_laldN (i := n) (v := (lN (S.1 k))) dX9_spreads_71 (by first | rfl | assumption | exact M_c.at (by decide) (by decide)) rfl (by omega) (by decide) hvk ?_
      refine zJ_cV2 dX9_spreads_72 sX9_409 mfX9_openedOf (c_Mo_openedOf Δ c T K hKc hT0 n k hx hBc (S.1 k) hv) (by first | rfl | assumption | exact M_c.at (by decide) (by decide)) rfl (Nat.le_of_ble_eq_true rfl) (by decide) (by decide) ?_
      rw [hop9]
      refine zJ_lstore_n (ls2 := fun x75 => [(2, .long x75), (1, .int (nI n)), (0, .ref 100)]) dX9_spreads_75 (by decide) (fun _ => rfl) (fun x75 ex75 => ?_)
      obtain rfl : x75 = (lN op) := ex75
      refine zJ_aload_n dX9_spreads_76 rfl ?_
      refine zJ_getr (j := 154) dX9_spreads_77 fX9_89 (by first | rfl | assumption | exact M_c.at (by decide) (by decide)) rfl (by first | rfl | assumption | exact M_c.rf (by decide) rfl) ?_
      refine zJ_bipush (v := 12) dX9_spreads_80 (by decide) ?_
      refine zJ_aload_n dX9_spreads_82 rfl ?_
      refine zJ_getr (j := 139) dX9_spreads_83 fX9_50 (by first | rfl | assumption | exact M_c.at (by decide) (by decide)) rfl (by first | rfl | assumption | exact M_c.rf (by decide) rfl) ?_
      refine zJ_iload_n dX9_spreads_86 rfl ?_
      refine zJ_ialdN (i := n) (v := (nI k.1)) dX9_spreads_87 (by first | rfl | assumption | exact M_c.at (by decide) (by decide)) rfl (by omega) (by decide) y1 ?_
      refine zJ_imul dX9_spreads_88 ?_
      refine zJ_aload_n dX9_spreads_89 rfl ?_
      refine zJ_getr (j := 140) dX9_spreads_90 fX9_53 (by first | rfl | assumption | exact M_c.at (by decide) (by decide)) rfl (by first | rfl | assumption | exact M_c.rf (by decide) rfl) ?_
      refine zJ_iload_n dX9_spreads_93 rfl ?_
      refine zJ_ialdN (i := n) (v := (nI k.2.1)) dX9_spreads_94 (by first | rfl | assumption | exact M_c.at (by decide) (by decide)) rfl (by omega) (by decide) y2 ?_
      refine zJ_iadd dX9_spreads_95 ?_
      refine zJ_iconst (v := 1) dX9_spreads_96 (by decide) ?_
      refine zJ_isub dX9_spreads_97 ?_
      refine zJ_dup2_11 dX9_spreads_98 rfl rfl ?_
      refine zJ_laldN (i := (k.1 * 12 + (k.2.1 - 1))) (v := (lN (S.2 (k.1 * 12 + (k.2.1 - 1))))) dX9_spreads_99 (by first | rfl | assumption | exact M_c.at (by decide) (by decide)) (na_12 _ _ hk2.1) (by omega) (by decide) hcv ?_
      refine zJ_lload_n dX9_spreads_100 rfl ?_
      refine zJ_ladd dX9_spreads_101 ?_
      rw [lN_add]
      refine zJ_lastN (i := (k.1 * 12 + (k.2.1 - 1))) dX9_spreads_102 (by first | rfl | assumption | exact M_c.at (by decide) (by decide)) (na_12 _ _ hk2.1) (by omega) (by decide) ?_
      refine zJ_aload_n dX9_spreads_103 rfl ?_
      refine zJ_getr (j := 153) dX9_spreads_104 fX9_86 (by first | rfl | assumption | exact M_c.at (by decide) (by decide)) rfl (by first | rfl | assumption | exact M_c.rf (by decide) rfl) ?_
      refine zJ_iload_n dX9_spreads_107 rfl ?_
      refine zJ_laldN (i := n) (v := (lN (S.1 k))) dX9_spreads_108 (by first | rfl | assumption | exact M_c.at (by decide) (by decide)) rfl (by omega) (by decide) (hTd n k hx) ?_
      refine zJ_lload_n dX9_spreads_109 rfl ?_
      refine zJ_lsub dX9_spreads_110 ?_
      rw [lN_sub hop, hsn9]
      refine zJ_lstore (ls2 := fun x111 => [(4, .long x111), (2, .long (lN op)), (1, .int (nI n)), (0, .ref 100)]) dX9_spreads_111 (by decide) (fun _ => rfl) (fun x111 ex111 => ?_)
      obtain rfl : x111 = (lN sn) := ex111
      refine zJ_lload dX9_spreads_113 rfl ?_
      refine zJ_lstore (ls2 := fun x115 => [(6, .long x115), (4, .long (lN sn)), (2, .long (lN op)), (1, .int (nI n)), (0, .ref 100)]) dX9_spreads_115 (by decide) (fun _ => rfl) (fun x115 ex115 => ?_)
      obtain rfl : x115 = (lN sn) := ex115
      refine zJ_aload_n dX9_spreads_117 rfl ?_
      refine zJ_iload_n dX9_spreads_118 rfl ?_
      refine zJ_cV1 dX9_spreads_119 sX9_386 mfX9_weightsOf (c_Mo_weightsOf Δ _ T K (K9 _ (hf.tr hfd)) hT0 n k hx) (by first | rfl | assumption | exact M_c.at (by decide) (by decide)) rfl (Nat.le_of_ble_eq_true rfl) (by decide) (by decide) ?_
      refine zJ_istore (ls2 := fun x122 => [(8, .int x122), (6, .long (lN sn)), (4, .long (lN sn)), (2, .long (lN op)), (1, .int (nI n)), (0, .ref 100)]) dX9_spreads_122 (by decide) (fun _ => rfl) (fun x122 ex122 => ?_)
      obtain rfl : x122 = (nI (zwS T k)) := ex122
      refine zJ_iconst (v := (-1)) dX9_spreads_124 (by decide) ?_
      refine zJ_istore (ls2 := fun x125 => [(9, .int x125), (8, .int (nI (zwS T k))), (6, .long (lN sn)), (4, .long (lN sn)), (2, .long (lN op)), (1, .int (nI n)), (0, .ref 100)]) dX9_spreads_125 (by decide) (fun _ => rfl) (fun x125 ex125 => ?_)
      obtain rfl : x125 = (zoi (zlt T k 0)) := ex125
      refine zJ_iconst (v := 0) dX9_spreads_127 (by decide) ?_
      refine zJ_istore (ls2 := fun x128 => [(10, .int x128), (9, .int (zoi (zlt T k 0))), (8, .int (nI (zwS T k))), (6, .long (lN sn)), (4, .long (lN sn)), (2, .long (lN op)), (1, .int (nI n)), (0, .ref 100)]) dX9_spreads_128 (by decide) (fun _ => rfl) (fun x128 ex128 => ?_)
      obtain rfl : x128 = (nI 0) := ex128
      exact LA 0 (Nat.zero_le _)
  have L2 : ∀ w1, zFM [53, 54] w w1 → w1.2.1 = w.2.1 → zCm w1 (fun _ => 0) → ∀ j, j ≤ K.length → zJ Δ mX9_spreads (zRm 3 0 0) true w.1 QR (fun _ _ => False) 0 0 23 [(1, .int (nI j)), (0, .ref 100)] [] (zrol w1 153 (fun i => if i < j then (if i = 0 then lN 1000000000 else 0) else w1.2.2.1 153 i)) := by
    intro w1 hf1 hi1 hC1
    have M_1 := M9 w1 hf1
    have hsz1 : w1.2.1 100 38 = nI K.length := by rw [hi1]; exact hsz
    refine zup (fun j hj ih => ?_)
    refine zJ_iload_n dX9_spreads_23 rfl ?_
    refine zJ_aload_n dX9_spreads_24 rfl ?_
    refine zJ_getiN dX9_spreads_25 fX9_354 (by first | rfl | assumption | exact M_1.at (by decide) (by decide)) rfl hsz1 ?_
    refine zJ_icmp_ge (tgt := 54) dX9_spreads_28 (by decide) (fun h28 => ?_) (fun h28 => ?_)
    · have hj9 : j = K.length := Nat.le_antisymm hj ((nI_leI (by omega) (by omega)).mp h28)
      subst hj9
      refine zJ_iconst (v := 0) dX9_spreads_54 (by decide) ?_
      refine zJ_istore_n (ls2 := fun x55 => [(1, .int x55), (0, .ref 100)]) dX9_spreads_55 (by decide) (fun _ => rfl) (fun x55 ex55 => ?_)
      rw [ex55]
      refine LX 0 (Nat.zero_le _) _ (hf1.tr (zFM.rol (by decide))) hi1 (fun z q hz => ?_) (fun i hi => ?_)
      · have hzl := (List.getElem?_eq_some_iff.mp hz).1
        rw [zrol_get, if_pos hzl]
        simp only [zsn, zt0]
        by_cases h0 : z = 0
        · subst h0
          rw [zall_0 hall] at hz
          rw [if_pos rfl, if_pos (Option.some.inj hz).symm]
        · rw [if_neg h0, if_neg (fun h => h0 (nodup_ix hnd hz (by rw [h]; exact zall_0 hall)))]; rfl
      · rw [show (zrol w1 153 (fun i => if i < K.length then (if i = 0 then lN 1000000000 else 0) else w1.2.2.1 153 i)).2.2.1 154 i = w1.2.2.1 154 i by simp [zrol]]
        exact hC1 i hi
    · have hj9 : j < K.length := Nat.lt_of_not_le fun hq9 => h28 ((nI_leI (by omega) (by omega)).mpr hq9)
      refine zJ_aload_n dX9_spreads_31 rfl ?_
      refine zJ_getr (j := 153) dX9_spreads_32 fX9_86 (by first | rfl | assumption | exact M_1.at (by decide) (by decide)) rfl (by first | rfl | assumption | exact M_1.rf (by decide) rfl) ?_
      refine zJ_iload_n dX9_spreads_35 rfl ?_
      refine zJ_iload_n dX9_spreads_36 rfl ?_
      refine zJ_if_ne (tgt := 46) dX9_spreads_37 (by decide) (fun h37 => ?_) (fun h37 => ?_)
      · have hv9 : ¬ j = 0 := fun h => h37 (by rw [h]; rfl)
        refine zJ_lconst (v := 0) dX9_spreads_46 (by decide) ?_
        refine zJ_lastN (i := j) dX9_spreads_47 (by first | rfl | assumption | exact M_1.at (by decide) (by decide)) rfl (by omega) (by decide) ?_
        refine zJ_iinc (ls2 := fun x48 => [(1, .int x48), (0, .ref 100)]) dX9_spreads_48 rfl (by decide) (fun _ => rfl) (fun x48 ex48 => ?_)
        refine zJ_goto (tgt := 23) dX9_spreads_51 (by decide) ?_
        rw [ex48, show nI j + Int32.ofInt 1 = nI (j + 1) from nI_1 _]
        refine zJ_w ?_ (ih (j + 1) (by omega) (by omega))
        rw [zsl_row, zrol_get, zrol_rol]
        refine congrArg (zrol w1 153) (funext fun i => ?_)
        by_cases h : i = j
        · subst h; rw [if_pos rfl, if_pos (by omega)]; first | (rw [if_pos hv9]; rfl) | (rw [if_neg hv9])
        · have c3 : (i < j + 1) = (i < j) := by simp only [eq_iff_iff]; omega
          simp only [h, if_false, c3]
      · have hv9 : j = 0 := (nI_eq (b := 0) (by omega) (by decide)).mp h37
        refine zJ_ldc2 dX9_spreads_40 kX9_372 ?_
        refine zJ_goto (tgt := 47) dX9_spreads_43 (by decide) ?_
        refine zJ_lastN (i := j) dX9_spreads_47 (by first | rfl | assumption | exact M_1.at (by decide) (by decide)) rfl (by omega) (by decide) ?_
        refine zJ_iinc (ls2 := fun x48 => [(1, .int x48), (0, .ref 100)]) dX9_spreads_48 rfl (by decide) (fun _ => rfl) (fun x48 ex48 => ?_)
        refine zJ_goto (tgt := 23) dX9_spreads_51 (by decide) ?_
        rw [ex48, show nI j + Int32.ofInt 1 = nI (j + 1) from nI_1 _]
        refine zJ_w ?_ (ih (j + 1) (by omega) (by omega))
        rw [zsl_row, zrol_get, zrol_rol]
        refine congrArg (zrol w1 153) (funext fun i => ?_)
        by_cases h : i = j
        · subst h; rw [if_pos rfl, if_pos (by omega)]; first | (rw [if_pos hv9]; rfl) | (rw [if_neg hv9])
        · have c3 : (i < j + 1) = (i < j) := by simp only [eq_iff_iff]; omega
          simp only [h, if_false, c3]
  have L1 : ∀ j, j ≤ 96 → zJ Δ mX9_spreads (zRm 3 0 0) true w.1 QR (fun _ _ => False) 0 0 2 [(1, .int (nI j)), (0, .ref 100)] [] (zrol w 154 (fun i => if i < j then 0 else w.2.2.1 154 i)) := by
    refine zup (fun j hj ih => ?_)
    refine zJ_iload_n dX9_spreads_2 rfl ?_
    refine zJ_bipush (v := 96) dX9_spreads_3 (by decide) ?_
    refine zJ_icmp_ge (tgt := 21) dX9_spreads_5 (by decide) (fun h5 => ?_) (fun h5 => ?_)
    · have hj9 : j = 96 := by exact Nat.le_antisymm hj ((nI_leI (a := 96) (b := j) (by omega) (by omega)).mp h5)
      subst hj9
      refine zJ_iconst (v := 0) dX9_spreads_21 (by decide) ?_
      refine zJ_istore_n (ls2 := fun x22 => [(1, .int x22), (0, .ref 100)]) dX9_spreads_22 (by decide) (fun _ => rfl) (fun x22 ex22 => ?_)
      rw [ex22]
      refine zJ_w ?_ (L2 (zrol w 154 (fun i => if i < 96 then 0 else w.2.2.1 154 i)) (zFM.rol (by decide)) rfl (fun i hi => by rw [zrol_get, if_pos hi]; rfl) 0 (Nat.zero_le _))
      refine (zrol_self _ 153).symm.trans (congrArg (zrol _ 153) (funext fun i => ?_))
      rw [if_neg (Nat.not_lt_zero i)]
    · have hj9 : j < 96 := Nat.lt_of_not_le fun hq9 => h5 (by exact (nI_leI (a := 96) (b := j) (by omega) (by omega)).mpr hq9)
      refine zJ_aload_n dX9_spreads_8 rfl ?_
      refine zJ_getr (j := 154) dX9_spreads_9 fX9_89 (by first | rfl | assumption | exact hM.at (by decide) (by decide)) rfl (by first | rfl | assumption | exact hM.rf (by decide) rfl) ?_
      refine zJ_iload_n dX9_spreads_12 rfl ?_
      refine zJ_lconst (v := 0) dX9_spreads_13 (by decide) ?_
      refine zJ_lastN (i := j) dX9_spreads_14 (by first | rfl | assumption | exact hM.at (by decide) (by decide)) rfl (by omega) (by decide) ?_
      refine zJ_iinc (ls2 := fun x15 => [(1, .int x15), (0, .ref 100)]) dX9_spreads_15 rfl (by decide) (fun _ => rfl) (fun x15 ex15 => ?_)
      refine zJ_goto (tgt := 2) dX9_spreads_18 (by decide) ?_
      rw [ex15, show nI j + Int32.ofInt 1 = nI (j + 1) from nI_1 _]
      refine zJ_w ?_ (ih (j + 1) (by omega) (by omega))
      rw [zsl_row, zrol_get, zrol_rol]
      refine congrArg (zrol w 154) (funext fun i => ?_)
      by_cases h : i = j
      · subst h; simp
      · have c3 : (i < j + 1) = (i < j) := by simp only [eq_iff_iff]; omega
        simp only [h, if_false, c3]
  refine zJ_iconst (v := 0) dX9_spreads_0 (by decide) ?_
  refine zJ_istore_n (ls2 := fun x1 => [(1, .int x1), (0, .ref 100)]) dX9_spreads_1 (by decide) (fun _ => rfl) (fun x1 ex1 => ?_)
  rw [ex1]
  refine zJ_w ?_ (L1 0 (Nat.zero_le _))
  refine (zrol_self w 154).symm.trans (congrArg (zrol w 154) (funext fun i => ?_))
  rw [if_neg (Nat.not_lt_zero i)]
