/-! Rows.firstWrong -/
def zjg (T : zTo) (f : Nat → Nat) : Nat → Nat → zKy → Option Nat
  | 0, _, _ => none
  | m + 1, i, k => if zmay T k (f i) then zjg T f m (i + 1) (zbk T k (f i)) else some i
/-- where the row f of n people goes wrong -/
def zjd (T : zTo) (f : Nat → Nat) (n : Nat) : Option Nat := if n = 0 then none else if f 0 ≠ T.1 12 then some 0 else zjg T f (n - 1) 1 (zfk T)
def zji (r : Option Nat) : Int32 := match r with
  | none => -1
  | some i => nI (i + 1)
set_option maxRecDepth 100000 in
theorem c_Rows_firstWrong (Δ : zD) (w : zW) (hC : zCs w) (t n : Nat) (f : Nat → Nat) (T : zTo) (hi : zTi w t T) (hT : zTok T) (hn : n ≤ 20) (h1 : w.2.1 38 1 = nI n) (hf : ∀ i, i < n → w.2.1 39 i = nI (f i)) (hf8 : ∀ i, f i < 8) : zMd Δ 2 0 0 true yX3_firstWrong mX3_firstWrong [.ref 38, .ref t] w (some (.int (zji (zjd T f n)))) w := by
  refine zMd.of mfX3_firstWrong (Nat.le_of_ble_eq_true rfl) (fun QR hQ => ?_)
  have t0 := hi.1.1
  have hfi : w.2.1 t 12 = nI (T.1 12) := hi.2.1 12 (by decide) (by decide)
  have hT12 := hT.2.2.2.2.2.2.2.2.1.1
  have L : ∀ j, j ≤ n → ∀ k : zKy, zkok T k → 1 ≤ j → zjg T f (n - j) j k = zjd T f n → zJ Δ mX3_firstWrong (zRm 2 0 0) true w.1 QR (fun _ _ => False) 0 0 32 [(4, .int (nI j)), (2, .long (lN (zenc T k))), (0, .ref 38), (1, .ref t)] [] w := by
    refine zup (fun j hj ih k hk h1j he => ?_)
    have hbl := zbits_lt (zmay T k) 8
    have hfj := hf8 j
    have cj : (nI j).toNatClampNeg = j := nI_clamp (by omega)
    refine zJ_iload dX3_firstWrong_32 rfl ?_
    refine zJ_aload_n dX3_firstWrong_34 rfl ?_
    refine zJ_geti dX3_firstWrong_35 fX3_21 (by first | rfl | assumption | exact hC.1 _ (by decide)) rfl ?_
    rw [h1]
    refine zJ_icmp_ge (tgt := 83) dX3_firstWrong_38 (by decide) (fun h38 => ?_) (fun h38 => ?_)
    · have hj9 : j = n := by exact Nat.le_antisymm hj ((nI_leI (a := n) (b := j) (by omega) (by omega)).mp h38)
      rw [hj9, Nat.sub_self] at he
      simp only [zjg] at he
      rw [← he] at hQ
      refine zJ_iconst (v := (-1)) dX3_firstWrong_83 (by decide) ?_
      exact zJ_iret dX3_firstWrong_84 rfl (by decide) (by decide) hQ
    · have hj9 : j < n := Nat.lt_of_not_le fun hq9 => h38 (by exact (nI_leI (a := n) (b := j) (by omega) (by omega)).mpr hq9)
      rw [show n - j = (n - (j + 1)) + 1 by omega] at he
      simp only [zjg] at he
      refine zJ_aload_n dX3_firstWrong_41 rfl ?_
      refine zJ_lload_n dX3_firstWrong_42 rfl ?_
      refine zJ_cS2 dX3_firstWrong_43 sX3_45 mfX6_maySendTo (c_Ways_maySendTo Δ w t k T hi hT hk) (Nat.le_of_ble_eq_true rfl) (by decide) (by decide) ?_
      refine zJ_aload_n dX3_firstWrong_46 rfl ?_
      refine zJ_getr dX3_firstWrong_47 fX3_11 (by first | rfl | assumption | exact hC.1 _ (by decide)) rfl (by first | rfl | assumption | exact hC.2 _ _ rfl) ?_
      refine zJ_iload dX3_firstWrong_50 rfl ?_
      refine zJ_iald dX3_firstWrong_52 (by first | rfl | assumption | exact hC.1 _ (by decide)) (vp_in_nI (by omega) (by omega)) ?_
      rw [cj, hf j hj9]
      refine zJ_ishr dX3_firstWrong_53 ?_
      refine zJ_iconst (v := 1) dX3_firstWrong_54 (by decide) ?_
      refine zJ_iand dX3_firstWrong_55 ?_
      rw [nI_bit (by omega) (by omega)]
      refine zJ_if_ne (tgt := 64) dX3_firstWrong_56 (by decide) (fun h56 => ?_) (fun h56 => ?_)
      · have hyes : zmay T k (f j) = true := by
          cases hz : zmay T k (f j) with
          | true => rfl
          | false =>
            have hb : (zbits (zmay T k) 8).testBit (f j) = false := by rw [zbits_tb, hz]; simp
            refine absurd ?_ h56
            have : ¬ zbits (zmay T k) 8 / 2 ^ f j % 2 = 1 := fun h => by rw [tb_of.mpr h] at hb; cases hb
            rw [show zbits (zmay T k) 8 / 2 ^ f j % 2 = 0 by omega]; rfl
        rw [if_pos hyes] at he
        refine zJ_aload_n dX3_firstWrong_64 rfl ?_
        refine zJ_lload_n dX3_firstWrong_65 rfl ?_
        refine zJ_aload_n dX3_firstWrong_66 rfl ?_
        refine zJ_getr dX3_firstWrong_67 fX3_11 (by first | rfl | assumption | exact hC.1 _ (by decide)) rfl (by first | rfl | assumption | exact hC.2 _ _ rfl) ?_
        refine zJ_iload dX3_firstWrong_70 rfl ?_
        refine zJ_iald dX3_firstWrong_72 (by first | rfl | assumption | exact hC.1 _ (by decide)) (vp_in_nI (by omega) (by omega)) ?_
        rw [cj, hf j hj9]
        refine zJ_cS3 dX3_firstWrong_73 sX3_49 mfX6_keyBehind (c_Ways_keyBehind Δ w t (f j) k T hi hT hk hfj) (Nat.le_of_ble_eq_true rfl) (by decide) (by decide) ?_
        refine zJ_lstore_n (ls2 := fun x76 => [(2, .long x76), (4, .int (nI j)), (0, .ref 38), (1, .ref t)]) dX3_firstWrong_76 (by decide) (fun _ => rfl) (fun x76 ex76 => ?_)
        obtain rfl : x76 = (lN (zenc T (zbk T k (f j)))) := ex76
        refine zJ_iinc (ls2 := fun x77 => [(4, .int x77), (2, .long (lN (zenc T (zbk T k (f j))))), (0, .ref 38), (1, .ref t)]) dX3_firstWrong_77 rfl (by decide) (fun _ => rfl) (fun x77 ex77 => ?_)
        refine zJ_goto (tgt := 32) dX3_firstWrong_80 (by decide) ?_
        refine zJ_ls [(4, .int x77), (2, .long (lN (zenc T (zbk T k (f j))))), (0, .ref 38), (1, .ref t)] (by simp) ?_
        rw [ex77, show nI j + Int32.ofInt 1 = nI (j + 1) from nI_1 _]
        exact ih (j + 1) (by omega) (by omega) _ (zkok.bk hk hfj hyes) (by omega) he
      · have hno : zmay T k (f j) = false := by
          cases hz : zmay T k (f j) with
          | false => rfl
          | true =>
            have hb : (zbits (zmay T k) 8).testBit (f j) = true := by rw [zbits_tb, hz]; simp [hfj]
            rw [tb_of.mp hb] at h56
            exact absurd h56 (by decide)
        rw [if_neg (by rw [hno]; decide)] at he
        rw [← he] at hQ
        refine zJ_iload dX3_firstWrong_59 rfl ?_
        refine zJ_iconst (v := 1) dX3_firstWrong_61 (by decide) ?_
        refine zJ_iadd dX3_firstWrong_62 ?_
        rw [show nI j + 1 = nI (j + 1) from nI_1 j]
        exact zJ_iret dX3_firstWrong_63 rfl (by decide) (by decide) hQ
  refine zJ_aload_n dX3_firstWrong_0 rfl ?_
  refine zJ_geti dX3_firstWrong_1 fX3_21 (by first | rfl | assumption | exact hC.1 _ (by decide)) rfl ?_
  rw [h1]
  refine zJ_if_ne (tgt := 9) dX3_firstWrong_4 (by decide) (fun h4 => ?_) (fun h4 => ?_)
  · have hn0 : ¬ n = 0 := fun h => h4 (by rw [h]; rfl)
    refine zJ_aload_n dX3_firstWrong_9 rfl ?_
    refine zJ_getr dX3_firstWrong_10 fX3_11 (by first | rfl | assumption | exact hC.1 _ (by decide)) rfl (by first | rfl | assumption | exact hC.2 _ _ rfl) ?_
    refine zJ_iconst (v := 0) dX3_firstWrong_13 (by decide) ?_
    refine zJ_iald dX3_firstWrong_14 (by first | rfl | assumption | exact hC.1 _ (by decide)) (vp_in_nI (n := 0) (by decide) (by decide)) ?_
    rw [show Int32.toNatClampNeg 0 = 0 from rfl, hf 0 (by omega)]
    refine zJ_aload_n dX3_firstWrong_15 rfl ?_
    refine zJ_geti dX3_firstWrong_16 fX3_34 (by first | rfl | assumption | exact hC.1 _ (by decide)) rfl ?_
    rw [hfi]
    refine zJ_icmp_eq (tgt := 24) dX3_firstWrong_19 (by decide) (fun h19 => ?_) (fun h19 => ?_)
    · have heq : f 0 = T.1 12 := (nI_eq (by have := hf8 0; omega) (by omega)).mp h19
      refine zJ_aload_n dX3_firstWrong_24 rfl ?_
      refine zJ_cS1 dX3_firstWrong_25 sX3_39 mfX6_firstKey (c_Ways_firstKey Δ w t T hi hT) (Nat.le_of_ble_eq_true rfl) (by decide) (by decide) ?_
      refine zJ_lstore_n (ls2 := fun x28 => [(2, .long x28), (0, .ref 38), (1, .ref t)]) dX3_firstWrong_28 (by decide) (fun _ => rfl) (fun x28 ex28 => ?_)
      obtain rfl : x28 = (lN (zenc T (zfk T))) := ex28
      refine zJ_iconst (v := 1) dX3_firstWrong_29 (by decide) ?_
      refine zJ_istore (ls2 := fun x30 => [(4, .int x30), (2, .long (lN (zenc T (zfk T)))), (0, .ref 38), (1, .ref t)]) dX3_firstWrong_30 (by decide) (fun _ => rfl) (fun x30 ex30 => ?_)
      obtain rfl : x30 = (nI 1) := ex30
      exact L 1 (by omega) _ (zgr_ok hT 0 _ (by simp [zgr])) (Nat.le_refl _) (by simp [zjd, hn0, heq])
    · have hne : f 0 ≠ T.1 12 := fun h => h19 (by rw [h])
      rw [show zjd T f n = some 0 by simp [zjd, hn0, hne]] at hQ
      refine zJ_iconst (v := 1) dX3_firstWrong_22 (by decide) ?_
      exact zJ_iret dX3_firstWrong_23 rfl (by decide) (by decide) hQ
  · have hn0 : n = 0 := (nI_eq (b := 0) (by omega) (by decide)).mp h4
    rw [show zjd T f n = none by simp [zjd, hn0]] at hQ
    refine zJ_iconst (v := (-1)) dX3_firstWrong_7 (by decide) ?_
    exact zJ_iret dX3_firstWrong_8 rfl (by decide) (by decide) hQ
