/-- the row that is asked: n people -/
def zAq (w : zW) (U : zTo) (n : Nat) (f : Nat → Nat) : Prop := w.2.1 100 61 = nI n ∧ n ≤ 20 ∧ ∀ i, i < n → w.2.1 160 i = nI (f i) ∧ f i < U.1 0
def zhad (f : Nat → Nat) : Nat → Nat
  | 0 => 0
  | n + 1 => zhad f n ||| 2 ^ f n
theorem zhad_lt {f : Nat → Nat} : ∀ {n : Nat}, (∀ i, i < n → f i < 8) → zhad f n < 256
  | 0, _ => by simp [zhad]
  | n + 1, h => Nat.or_lt_two_pow (n := 8) (zhad_lt (fun i hi => h i (by omega))) (Nat.pow_lt_pow_right (by decide) (h n (by omega)))
/-- the key behind j people -/
def zkj (U : zTo) (f : Nat → Nat) (j : Nat) (k : zKy) : Prop := k.1 = f (j - 1) ∧ k.2.1 = j ∧ (U.1 10 = 0 → k.2.2.1 = zhad f j) ∧ (U.1 10 = 1 → k.2.2.1 = if j = 1 then 8 else f (j - 2))
theorem zkj.nx {U : zTo} {f : Nat → Nat} {j : Nat} {k : zKy} (h : zkj U f j k) (hj : 1 ≤ j) : zkj U f (j + 1) (zbk U k (f j)) := by
  obtain ⟨h1, h2, h3, h4⟩ := h
  refine ⟨by simp [zbk], by simp [zbk, h2], fun h0 => ?_, fun h0 => ?_⟩
  · simp only [zbk, h0, if_true, h3 h0, zhad]
  · have : ¬ j + 1 = 1 := by omega
    simp only [zbk, h0, this, if_false, if_true, h1]
    rw [if_neg (by decide)]; congr 1
theorem zkj.fk {U : zTo} {f : Nat → Nat} (h : f 0 = U.1 12) : zkj U f 1 (zfk U) := ⟨by simp [zfk, h], rfl, fun h0 => by simp [zfk, h0, zhad, h], fun h0 => by simp [zfk, h0]⟩
set_option maxRecDepth 100000 in
theorem c_Mo_firstWrong (Δ : zD) (w : zW) (U : zTo) (hMu : zMu w U) (hU : zTok U) (h13 : U.1 13 = 0) (n : Nat) (f : Nat → Nat) (hq : zAq w U n f) : zMd Δ 0 0 0 true yX9_firstWrong mX9_firstWrong [.ref 100] w (some (.int (zji (zjd U f n)))) w := by
  refine zMd.of mfX9_firstWrong (Nat.le_of_ble_eq_true rfl) (fun QR hQ => ?_)
  have hMu0 := hMu
  obtain ⟨hM, u1, u2, u3, u4, u5, u6, u7, u8, u9, uso, unu, uwt⟩ := hMu
  have hp8 := hU.1
  have hU0 := hU
  have hp7 := hU.2.2.2.1
  have hp10 := hU.2.2.2.2.2.2.1
  have hp12 := hU.2.2.2.2.2.2.2.2.1
  have hpw := hU.2.2.2.2.2.2.2.2.2.2.2
  obtain ⟨h61, hn, hf⟩ := hq
  have hf8 : ∀ i, i < n → f i < 8 := fun i hi => by have := (hf i hi).2; omega
  have L : ∀ j, j ≤ n → 1 ≤ j → ∀ k, zkj U f j k → zjd U f n = zjg U f (n - j) j k → zJ Δ mX9_firstWrong (zRm 0 0 0) true w.1 QR (fun _ _ => False) 0 0 4 [(2, .int (nI j)), (1, .int (nI (zhad f j))), (0, .ref 100)] [] w := by
    refine zup (fun j hj ih h1j k hk hz => ?_)
    have hhl := zhad_lt (n := j) (fun i hi => hf8 i (by omega))
    have hm : j < n → zjg U f (n - j) j k = if zmay U k (f j) then zjg U f (n - (j + 1)) (j + 1) (zbk U k (f j)) else some j := fun h => by
      rw [show n - j = (n - (j + 1)) + 1 by omega]; rfl
    have bad : j < n → zmay U k (f j) = false → zjd U f n = some j := fun h h9 => by rw [hz, hm h, h9]; rfl
    refine zJ_iload_n dX9_firstWrong_4 rfl ?_
    refine zJ_aload_n dX9_firstWrong_5 rfl ?_
    refine zJ_getiN dX9_firstWrong_6 fX9_435 (by first | rfl | assumption | exact hM.at (by decide) (by decide)) rfl h61 ?_
    refine zJ_icmp_ge (tgt := 137) dX9_firstWrong_9 (by decide) (fun h9 => ?_) (fun h9 => ?_)
    · have hj9 : j = n := Nat.le_antisymm hj ((nI_leI (by omega) (by omega)).mp h9)
      rw [hz, hj9, show n - n = 0 from Nat.sub_self n] at hQ
      refine zJ_iconst (v := -1) dX9_firstWrong_137 (by decide) ?_
      exact zJ_iret dX9_firstWrong_138 rfl (by decide) (by decide) hQ
    · have hj9 : j < n := Nat.lt_of_not_le fun hq9 => h9 ((nI_leI (by omega) (by omega)).mpr hq9)
      have hfj := (hf j hj9).2
      have hfj8 := hf8 j hj9
      refine zJ_aload_n dX9_firstWrong_12 rfl ?_
      refine zJ_getr (j := 160) dX9_firstWrong_13 fX9_101 (by first | rfl | assumption | exact hM.at (by decide) (by decide)) rfl (by first | rfl | assumption | exact hM.rf (by decide) rfl) ?_
      refine zJ_iload_n dX9_firstWrong_16 rfl ?_
      refine zJ_ialdN (i := j) (v := (nI (f j))) dX9_firstWrong_17 (by first | rfl | assumption | exact hM.at (by decide) (by decide)) rfl (by omega) (by decide) (hf j hj9).1 ?_
      refine zJ_istore_n (ls2 := fun x18 => [(3, .int x18), (2, .int (nI j)), (1, .int (nI (zhad f j))), (0, .ref 100)]) dX9_firstWrong_18 (by decide) (fun _ => rfl) (fun x18 ex18 => ?_)
      obtain rfl : x18 = (nI (f j)) := ex18
      refine zJ_iload_n dX9_firstWrong_19 rfl ?_
      refine zJ_if_ne (tgt := 31) dX9_firstWrong_20 (by decide) (fun h20 => ?_) (fun h9 => absurd h9 (fun h => absurd ((nI_eq (b := 0) (by omega) (by decide)).mp h) (by omega)))
      refine zJ_iload_n dX9_firstWrong_31 rfl ?_
      refine zJ_aload_n dX9_firstWrong_32 rfl ?_
      refine zJ_getiN dX9_firstWrong_33 fX9_16 (by first | rfl | assumption | exact hM.at (by decide) (by decide)) rfl u5 ?_
      refine zJ_icmp_lt (tgt := 43) dX9_firstWrong_36 (by decide) (fun h36 => ?_) (fun h36 => ?_)
      · have hkh : k.2.1 < U.1 7 := by rw [hk.2.1]; exact (nI_ltI (by omega) (by omega)).mp h36
        refine zJ_iload_n dX9_firstWrong_43 rfl ?_
        refine zJ_if_le (tgt := 125) dX9_firstWrong_44 (by decide) (fun h9 => absurd h9 (fun h => absurd ((nI_leI (b := 0) (by omega) (by decide)).mp h) (by omega))) (fun h44 => ?_)
        refine zJ_aload_n dX9_firstWrong_47 rfl ?_
        refine zJ_getr (j := 160) dX9_firstWrong_48 fX9_101 (by first | rfl | assumption | exact hM.at (by decide) (by decide)) rfl (by first | rfl | assumption | exact hM.rf (by decide) rfl) ?_
        refine zJ_iload_n dX9_firstWrong_51 rfl ?_
        refine zJ_iconst (v := 1) dX9_firstWrong_52 (by decide) ?_
        refine zJ_isub dX9_firstWrong_53 ?_
        refine zJ_ialdN (i := (j - 1)) (v := (nI (f (j - 1)))) dX9_firstWrong_54 (by first | rfl | assumption | exact hM.at (by decide) (by decide)) (na_sub (b := 1) (by omega)) (by omega) (by decide) (hf _ (by omega)).1 ?_
        refine zJ_istore (ls2 := fun x55 => [(4, .int x55), (3, .int (nI (f j))), (2, .int (nI j)), (1, .int (nI (zhad f j))), (0, .ref 100)]) dX9_firstWrong_55 (by decide) (fun _ => rfl) (fun x55 ex55 => ?_)
        obtain rfl : x55 = (nI (f (j - 1))) := ex55
        have hfp := (hf (j - 1) (by omega)).2
        have hwl := (hpw (f (j - 1)) (f j) (by omega) hfj8).1
        refine zJ_aload_n dX9_firstWrong_57 rfl ?_
        refine zJ_getr (j := 112) dX9_firstWrong_58 fX9_29 (by first | rfl | assumption | exact hM.at (by decide) (by decide)) rfl (by first | rfl | assumption | exact hM.rf (by decide) rfl) ?_
        refine zJ_bipush (v := 8) dX9_firstWrong_61 (by decide) ?_
        refine zJ_iload dX9_firstWrong_63 rfl ?_
        refine zJ_imul dX9_firstWrong_65 ?_
        refine zJ_iload_n dX9_firstWrong_66 rfl ?_
        refine zJ_iadd dX9_firstWrong_67 ?_
        refine zJ_ialdN (i := ((f (j - 1)) * 8 + (f j))) (v := (nI (U.2.2.2 (f (j - 1) * 8 + f j)))) dX9_firstWrong_68 (by first | rfl | assumption | exact hM.at (by decide) (by decide)) (na_8 _ _) (by omega) (by decide) (uwt _ _ (hf _ (by omega)).2 (hf j hj9).2) ?_
        refine zJ_if_ne (tgt := 76) dX9_firstWrong_69 (by decide) (fun h69 => ?_) (fun h69 => ?_)
        · have hwn : U.2.2.2 (k.1 * 8 + f j) ≠ 0 := by rw [hk.1]; exact fun h => h69 (by rw [h]; rfl)
          by_cases hl0 : U.1 10 = 0
          · skip
            refine zJ_aload_n dX9_firstWrong_76 rfl ?_
            refine zJ_getiN dX9_firstWrong_77 fX9_310 (by first | rfl | assumption | exact hM.at (by decide) (by decide)) rfl u8 ?_
            refine zJ_if_ne (tgt := 96) dX9_firstWrong_80 (by decide) (fun h9 => absurd h9 (fun h => h (by rw [hl0]; rfl))) (fun h80w => ?_)
            refine zJ_iload_n dX9_firstWrong_83 rfl ?_
            refine zJ_iload_n dX9_firstWrong_84 rfl ?_
            refine zJ_ishr dX9_firstWrong_85 ?_
            refine zJ_iconst (v := 1) dX9_firstWrong_86 (by decide) ?_
            refine zJ_iand dX9_firstWrong_87 ?_
            rw [nI_bit (by omega) (by omega)]
            refine zJ_iconst (v := 1) dX9_firstWrong_88 (by decide) ?_
            refine zJ_icmp_ne (tgt := 96) dX9_firstWrong_89 (by decide) (fun h89w => ?_) (fun h89w => ?_)
            · have hb0 : (zhad f j).testBit (f j) = false := Bool.eq_false_iff.mpr fun h => h89w (by rw [tb_of.mp h]; rfl)
              refine zJ_aload_n dX9_firstWrong_96 rfl ?_
              refine zJ_getiN dX9_firstWrong_97 fX9_310 (by first | rfl | assumption | exact hM.at (by decide) (by decide)) rfl u8 ?_
              refine zJ_iconst (v := 1) dX9_firstWrong_100 (by decide) ?_
              refine zJ_icmp_ne (tgt := 125) dX9_firstWrong_101 (by decide) (fun h101z => ?_) (fun h9 => absurd h9 (fun h => by rw [hl0] at h; exact absurd h (by decide)))
              have hyes : zmay U k (f j) = true := zmay_eq.mpr ⟨hkh, hwn, by rw [h13]; simp, (by rw [if_pos hl0, hk.2.2.1 hl0]; exact hb0)⟩
              refine zJ_iload_n dX9_firstWrong_125 rfl ?_
              refine zJ_iconst (v := 1) dX9_firstWrong_126 (by decide) ?_
              refine zJ_iload_n dX9_firstWrong_127 rfl ?_
              refine zJ_ishl dX9_firstWrong_128 ?_
              refine zJ_ior dX9_firstWrong_129 ?_
              refine zJ_istore_n (ls2 := fun x130n1 => [(1, .int x130n1), (4, .int (nI (f (j - 1)))), (3, .int (nI (f j))), (2, .int (nI j)), (0, .ref 100)]) dX9_firstWrong_130 (by decide) (fun _ => rfl) (fun x130n1 ex130n1 => ?_)
              refine zJ_iinc (ls2 := fun x131n1 => [(2, .int x131n1), (1, .int x130n1), (4, .int (nI (f (j - 1)))), (3, .int (nI (f j))), (0, .ref 100)]) dX9_firstWrong_131 rfl (by decide) (fun _ => rfl) (fun x131n1 ex131n1 => ?_)
              refine zJ_goto (tgt := 4) dX9_firstWrong_134 (by decide) ?_
              refine zJ_ls [(2, .int x131n1), (1, .int x130n1), (0, .ref 100)] (by simp) ?_
              rw [ex131n1, show nI j + Int32.ofInt 1 = nI (j + 1) from nI_1 _, ex130n1, na_shl (f j) (by omega), na_or]
              refine ih (j + 1) (by omega) (by omega) (by omega) _ (hk.nx h1j) ?_
              rw [hz, hm hj9, hyes]; rfl
            · have hno : zmay U k (f j) = false := Bool.eq_false_iff.mpr fun h => by
                have hm9 := zmay_eq.mp h
                have h9 := hm9.2.2.2
                rw [if_pos hl0, hk.2.2.1 hl0, Bool.eq_false_iff] at h9
                exact h9 (tb_of.mpr ((nI_eq (b := 1) (by omega) (by decide)).mp h89w))
              rw [bad hj9 hno] at hQ
              refine zJ_iload_n dX9_firstWrong_92 rfl ?_
              refine zJ_iconst (v := 1) dX9_firstWrong_93 (by decide) ?_
              refine zJ_iadd dX9_firstWrong_94 ?_
              rw [show nI j + 1 = nI (j + 1) from nI_1 _]
              exact zJ_iret dX9_firstWrong_95 rfl (by decide) (by decide) hQ
          · skip
            refine zJ_aload_n dX9_firstWrong_76 rfl ?_
            refine zJ_getiN dX9_firstWrong_77 fX9_310 (by first | rfl | assumption | exact hM.at (by decide) (by decide)) rfl u8 ?_
            refine zJ_if_ne (tgt := 96) dX9_firstWrong_80 (by decide) (fun h80v => ?_) (fun h9 => absurd h9 (fun h => hl0 ((nI_eq (b := 0) (by omega) (by decide)).mp h)))
            refine zJ_aload_n dX9_firstWrong_96 rfl ?_
            refine zJ_getiN dX9_firstWrong_97 fX9_310 (by first | rfl | assumption | exact hM.at (by decide) (by decide)) rfl u8 ?_
            refine zJ_iconst (v := 1) dX9_firstWrong_100 (by decide) ?_
            refine zJ_icmp_ne (tgt := 125) dX9_firstWrong_101 (by decide) (fun h101y => ?_) (fun h101y => ?_)
            · have hyes : zmay U k (f j) = true := zmay_eq.mpr ⟨hkh, hwn, by rw [h13]; simp, (by rw [if_neg hl0, if_neg (fun h => h101y (by rw [h]; rfl))]; trivial)⟩
              refine zJ_iload_n dX9_firstWrong_125 rfl ?_
              refine zJ_iconst (v := 1) dX9_firstWrong_126 (by decide) ?_
              refine zJ_iload_n dX9_firstWrong_127 rfl ?_
              refine zJ_ishl dX9_firstWrong_128 ?_
              refine zJ_ior dX9_firstWrong_129 ?_
              refine zJ_istore_n (ls2 := fun x130n2 => [(1, .int x130n2), (4, .int (nI (f (j - 1)))), (3, .int (nI (f j))), (2, .int (nI j)), (0, .ref 100)]) dX9_firstWrong_130 (by decide) (fun _ => rfl) (fun x130n2 ex130n2 => ?_)
              refine zJ_iinc (ls2 := fun x131n2 => [(2, .int x131n2), (1, .int x130n2), (4, .int (nI (f (j - 1)))), (3, .int (nI (f j))), (0, .ref 100)]) dX9_firstWrong_131 rfl (by decide) (fun _ => rfl) (fun x131n2 ex131n2 => ?_)
              refine zJ_goto (tgt := 4) dX9_firstWrong_134 (by decide) ?_
              refine zJ_ls [(2, .int x131n2), (1, .int x130n2), (0, .ref 100)] (by simp) ?_
              rw [ex131n2, show nI j + Int32.ofInt 1 = nI (j + 1) from nI_1 _, ex130n2, na_shl (f j) (by omega), na_or]
              refine ih (j + 1) (by omega) (by omega) (by omega) _ (hk.nx h1j) ?_
              rw [hz, hm hj9, hyes]; rfl
            · have hl1 : U.1 10 = 1 := (nI_eq (b := 1) (by omega) (by decide)).mp h101y
              refine zJ_iload_n dX9_firstWrong_104 rfl ?_
              refine zJ_iconst (v := 1) dX9_firstWrong_105 (by decide) ?_
              refine zJ_icmp_le (tgt := 125) dX9_firstWrong_106 (by decide) (fun h106y => ?_) (fun h106y => ?_)
              · have hyes : zmay U k (f j) = true := zmay_eq.mpr ⟨hkh, hwn, by rw [h13]; simp, (by have hj1 : j = 1 := (by have := (nI_leI (b := 1) (by omega) (by decide)).mp h106y; omega); rw [if_neg hl0, if_pos hl1, hk.2.2.2 hl1, if_pos hj1]; omega)⟩
                refine zJ_iload_n dX9_firstWrong_125 rfl ?_
                refine zJ_iconst (v := 1) dX9_firstWrong_126 (by decide) ?_
                refine zJ_iload_n dX9_firstWrong_127 rfl ?_
                refine zJ_ishl dX9_firstWrong_128 ?_
                refine zJ_ior dX9_firstWrong_129 ?_
                refine zJ_istore_n (ls2 := fun x130n3 => [(1, .int x130n3), (4, .int (nI (f (j - 1)))), (3, .int (nI (f j))), (2, .int (nI j)), (0, .ref 100)]) dX9_firstWrong_130 (by decide) (fun _ => rfl) (fun x130n3 ex130n3 => ?_)
                refine zJ_iinc (ls2 := fun x131n3 => [(2, .int x131n3), (1, .int x130n3), (4, .int (nI (f (j - 1)))), (3, .int (nI (f j))), (0, .ref 100)]) dX9_firstWrong_131 rfl (by decide) (fun _ => rfl) (fun x131n3 ex131n3 => ?_)
                refine zJ_goto (tgt := 4) dX9_firstWrong_134 (by decide) ?_
                refine zJ_ls [(2, .int x131n3), (1, .int x130n3), (0, .ref 100)] (by simp) ?_
                rw [ex131n3, show nI j + Int32.ofInt 1 = nI (j + 1) from nI_1 _, ex130n3, na_shl (f j) (by omega), na_or]
                refine ih (j + 1) (by omega) (by omega) (by omega) _ (hk.nx h1j) ?_
                rw [hz, hm hj9, hyes]; rfl
              · have hj1 : ¬ j = 1 := fun h => h106y (by rw [h]; exact Int32.le_refl _)
                have hf2 := (hf (j - 2) (by omega)).2
                refine zJ_aload_n dX9_firstWrong_109 rfl ?_
                refine zJ_getr (j := 160) dX9_firstWrong_110 fX9_101 (by first | rfl | assumption | exact hM.at (by decide) (by decide)) rfl (by first | rfl | assumption | exact hM.rf (by decide) rfl) ?_
                refine zJ_iload_n dX9_firstWrong_113 rfl ?_
                refine zJ_iconst (v := 2) dX9_firstWrong_114 (by decide) ?_
                refine zJ_isub dX9_firstWrong_115 ?_
                refine zJ_ialdN (i := (j - 2)) (v := (nI (f (j - 2)))) dX9_firstWrong_116 (by first | rfl | assumption | exact hM.at (by decide) (by decide)) (na_sub (b := 2) (by omega)) (by omega) (by decide) (hf _ (by omega)).1 ?_
                refine zJ_iload_n dX9_firstWrong_117 rfl ?_
                refine zJ_icmp_ne (tgt := 125) dX9_firstWrong_118 (by decide) (fun h118y => ?_) (fun h118y => ?_)
                · have hyes : zmay U k (f j) = true := zmay_eq.mpr ⟨hkh, hwn, by rw [h13]; simp, (by rw [if_neg hl0, if_pos hl1, hk.2.2.2 hl1, if_neg hj1]; exact fun h => h118y (by rw [h]))⟩
                  refine zJ_iload_n dX9_firstWrong_125 rfl ?_
                  refine zJ_iconst (v := 1) dX9_firstWrong_126 (by decide) ?_
                  refine zJ_iload_n dX9_firstWrong_127 rfl ?_
                  refine zJ_ishl dX9_firstWrong_128 ?_
                  refine zJ_ior dX9_firstWrong_129 ?_
                  refine zJ_istore_n (ls2 := fun x130n4 => [(1, .int x130n4), (4, .int (nI (f (j - 1)))), (3, .int (nI (f j))), (2, .int (nI j)), (0, .ref 100)]) dX9_firstWrong_130 (by decide) (fun _ => rfl) (fun x130n4 ex130n4 => ?_)
                  refine zJ_iinc (ls2 := fun x131n4 => [(2, .int x131n4), (1, .int x130n4), (4, .int (nI (f (j - 1)))), (3, .int (nI (f j))), (0, .ref 100)]) dX9_firstWrong_131 rfl (by decide) (fun _ => rfl) (fun x131n4 ex131n4 => ?_)
                  refine zJ_goto (tgt := 4) dX9_firstWrong_134 (by decide) ?_
                  refine zJ_ls [(2, .int x131n4), (1, .int x130n4), (0, .ref 100)] (by simp) ?_
                  rw [ex131n4, show nI j + Int32.ofInt 1 = nI (j + 1) from nI_1 _, ex130n4, na_shl (f j) (by omega), na_or]
                  refine ih (j + 1) (by omega) (by omega) (by omega) _ (hk.nx h1j) ?_
                  rw [hz, hm hj9, hyes]; rfl
                · have hno : zmay U k (f j) = false := Bool.eq_false_iff.mpr fun h => by
                    have hm9 := zmay_eq.mp h
                    have h9 := hm9.2.2.2
                    rw [if_neg hl0, if_pos hl1, hk.2.2.2 hl1, if_neg hj1] at h9
                    exact h9 ((nI_eq (by omega) (by omega)).mp h118y)
                  rw [bad hj9 hno] at hQ
                  refine zJ_iload_n dX9_firstWrong_121 rfl ?_
                  refine zJ_iconst (v := 1) dX9_firstWrong_122 (by decide) ?_
                  refine zJ_iadd dX9_firstWrong_123 ?_
                  rw [show nI j + 1 = nI (j + 1) from nI_1 _]
                  exact zJ_iret dX9_firstWrong_124 rfl (by decide) (by decide) hQ
        · have hno : zmay U k (f j) = false := Bool.eq_false_iff.mpr fun h => by
            have hm9 := zmay_eq.mp h
            exact hm9.2.1 (by rw [hk.1]; exact (nI_eq (b := 0) (by omega) (by decide)).mp h69)
          rw [bad hj9 hno] at hQ
          refine zJ_iload_n dX9_firstWrong_72 rfl ?_
          refine zJ_iconst (v := 1) dX9_firstWrong_73 (by decide) ?_
          refine zJ_iadd dX9_firstWrong_74 ?_
          rw [show nI j + 1 = nI (j + 1) from nI_1 _]
          exact zJ_iret dX9_firstWrong_75 rfl (by decide) (by decide) hQ
      · have hno : zmay U k (f j) = false := Bool.eq_false_iff.mpr fun h => by
          have hm9 := zmay_eq.mp h
          exact h36 ((nI_ltI (by omega) (by omega)).mpr (by rw [← hk.2.1]; exact hm9.1))
        rw [bad hj9 hno] at hQ
        refine zJ_iload_n dX9_firstWrong_39 rfl ?_
        refine zJ_iconst (v := 1) dX9_firstWrong_40 (by decide) ?_
        refine zJ_iadd dX9_firstWrong_41 ?_
        rw [show nI j + 1 = nI (j + 1) from nI_1 _]
        exact zJ_iret dX9_firstWrong_42 rfl (by decide) (by decide) hQ
  refine zJ_iconst (v := 0) dX9_firstWrong_0 (by decide) ?_
  refine zJ_istore_n (ls2 := fun x1 => [(1, .int x1), (0, .ref 100)]) dX9_firstWrong_1 (by decide) (fun _ => rfl) (fun x1 ex1 => ?_)
  obtain rfl : x1 = (nI 0) := ex1
  refine zJ_iconst (v := 0) dX9_firstWrong_2 (by decide) ?_
  refine zJ_istore_n (ls2 := fun x3 => [(2, .int x3), (1, .int (nI 0)), (0, .ref 100)]) dX9_firstWrong_3 (by decide) (fun _ => rfl) (fun x3 ex3 => ?_)
  obtain rfl : x3 = (nI 0) := ex3
  refine zJ_iload_n dX9_firstWrong_4 rfl ?_
  refine zJ_aload_n dX9_firstWrong_5 rfl ?_
  refine zJ_getiN dX9_firstWrong_6 fX9_435 (by first | rfl | assumption | exact hM.at (by decide) (by decide)) rfl h61 ?_
  refine zJ_icmp_ge (tgt := 137) dX9_firstWrong_9 (by decide) (fun h9 => ?_) (fun h9 => ?_)
  · have hn0 : n = 0 := Nat.le_zero.mp ((nI_leI (b := 0) (by omega) (by decide)).mp h9)
    rw [show zjd U f n = none by simp only [zjd]; rw [if_pos hn0]] at hQ
    refine zJ_iconst (v := -1) dX9_firstWrong_137 (by decide) ?_
    exact zJ_iret dX9_firstWrong_138 rfl (by decide) (by decide) hQ
  · have hn0 : 0 < n := Nat.lt_of_not_le fun hq9 => h9 ((nI_leI (b := 0) (by omega) (by decide)).mpr hq9)
    have hf0 := (hf 0 hn0).2
    have hf08 := hf8 0 hn0
    refine zJ_aload_n dX9_firstWrong_12 rfl ?_
    refine zJ_getr (j := 160) dX9_firstWrong_13 fX9_101 (by first | rfl | assumption | exact hM.at (by decide) (by decide)) rfl (by first | rfl | assumption | exact hM.rf (by decide) rfl) ?_
    refine zJ_iload_n dX9_firstWrong_16 rfl ?_
    refine zJ_ialdN (i := 0) (v := (nI (f 0))) dX9_firstWrong_17 (by first | rfl | assumption | exact hM.at (by decide) (by decide)) rfl (by omega) (by decide) (hf 0 hn0).1 ?_
    refine zJ_istore_n (ls2 := fun x18 => [(3, .int x18), (2, .int (nI 0)), (1, .int (nI 0)), (0, .ref 100)]) dX9_firstWrong_18 (by decide) (fun _ => rfl) (fun x18 ex18 => ?_)
    obtain rfl : x18 = (nI (f 0)) := ex18
    refine zJ_iload_n dX9_firstWrong_19 rfl ?_
    refine zJ_if_ne (tgt := 31) dX9_firstWrong_20 (by decide) (fun h9 => False.elim (by revert h9; decide)) (fun _ => ?_)
    refine zJ_iload_n dX9_firstWrong_23 rfl ?_
    refine zJ_aload_n dX9_firstWrong_24 rfl ?_
    refine zJ_getiN dX9_firstWrong_25 fX9_301 (by first | rfl | assumption | exact hM.at (by decide) (by decide)) rfl u2 ?_
    refine zJ_icmp_ne (tgt := 39) dX9_firstWrong_28 (by decide) (fun h28 => ?_) (fun h28 => ?_)
    · rw [show zjd U f n = some 0 by simp only [zjd]; rw [if_neg (by omega), if_pos (fun h => h28 (by rw [h]))]] at hQ
      refine zJ_iload_n dX9_firstWrong_39 rfl ?_
      refine zJ_iconst (v := 1) dX9_firstWrong_40 (by decide) ?_
      refine zJ_iadd dX9_firstWrong_41 ?_
      exact zJ_iret dX9_firstWrong_42 rfl (by decide) (by decide) hQ
    · refine zJ_iload_n dX9_firstWrong_31 rfl ?_
      refine zJ_aload_n dX9_firstWrong_32 rfl ?_
      refine zJ_getiN dX9_firstWrong_33 fX9_16 (by first | rfl | assumption | exact hM.at (by decide) (by decide)) rfl u5 ?_
      refine zJ_icmp_lt (tgt := 43) dX9_firstWrong_36 (by decide) (fun h36 => ?_) (fun h36 => ?_)
      · refine zJ_iload_n dX9_firstWrong_43 rfl ?_
        refine zJ_if_le (tgt := 125) dX9_firstWrong_44 (by decide) (fun _ => ?_) (fun h9 => False.elim (by revert h9; decide))
        refine zJ_iload_n dX9_firstWrong_125 rfl ?_
        refine zJ_iconst (v := 1) dX9_firstWrong_126 (by decide) ?_
        refine zJ_iload_n dX9_firstWrong_127 rfl ?_
        refine zJ_ishl dX9_firstWrong_128 ?_
        refine zJ_ior dX9_firstWrong_129 ?_
        refine zJ_istore_n (ls2 := fun x130k => [(1, .int x130k), (3, .int (nI (f 0))), (2, .int (nI 0)), (0, .ref 100)]) dX9_firstWrong_130 (by decide) (fun _ => rfl) (fun x130k ex130k => ?_)
        refine zJ_iinc (ls2 := fun x131k => [(2, .int x131k), (1, .int x130k), (3, .int (nI (f 0))), (0, .ref 100)]) dX9_firstWrong_131 rfl (by decide) (fun _ => rfl) (fun x131k ex131k => ?_)
        refine zJ_goto (tgt := 4) dX9_firstWrong_134 (by decide) ?_
        refine zJ_ls [(2, .int x131k), (1, .int x130k), (0, .ref 100)] (by simp) ?_
        rw [ex131k, ex130k, na_shl (f 0) (by omega)]
        have h0 : f 0 = U.1 12 := (nI_eq (by omega) (by omega)).mp h28
        refine zJ_ls _ (List.Subset.refl _) ?_
        have := L 1 (by omega) (Nat.le_refl _) _ (zkj.fk h0) (by simp only [zjd]; rw [if_neg (by omega), if_neg (fun h => h h0)])
        rw [show zhad f 1 = 0 ||| 2 ^ f 0 from rfl, ← na_or] at this
        exact this
      · exact absurd ((nI_ltI (a := 0) (by decide) (by omega)).mpr (by omega)) h36
