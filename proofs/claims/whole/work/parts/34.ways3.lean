/-! LetterTown$Ways: layHand, lay -/
def zFl (w b : zW) (i : Nat) : Prop := b.1 = w.1 ∧ b.2.2.2 = w.2.2.2 ∧ (∀ a j, (a < i ∨ i + 4 < a) → b.2.1 a j = w.2.1 a j) ∧ (∀ j, j ≠ 5 → j ≠ 6 → j ≠ 7 → b.2.1 i j = w.2.1 i j) ∧ (∀ a j, a ≠ i + 1 → b.2.2.1 a j = w.2.2.1 a j)
theorem zFl.rf (w : zW) (i : Nat) : zFl w w i := ⟨rfl, rfl, fun _ _ _ => rfl, fun _ _ _ _ => rfl, fun _ _ _ => rfl⟩
theorem zFl.tr {w b c : zW} {i : Nat} (h1 : zFl w b i) (h2 : zFl b c i) : zFl w c i := ⟨h2.1.trans h1.1, h2.2.1.trans h1.2.1, fun a j h => (h2.2.2.1 a j h).trans (h1.2.2.1 a j h), fun j a b c => (h2.2.2.2.1 j a b c).trans (h1.2.2.2.1 j a b c), fun a j h => (h2.2.2.2.2 a j h).trans (h1.2.2.2.2 a j h)⟩
theorem zFr.fl {w b : zW} {i : Nat} (h : zFr w b i) : zFl w b i := ⟨h.1, h.2.1, fun a j h1 => h.2.2.1 a j (by omega) (by omega), fun j h5 h6 h7 => h.2.2.1 i j (by omega) (Or.inr h5), h.2.2.2⟩
theorem zFl.i {w : zW} {i a j : Nat} {x : Int32} (h : (a = i ∧ (j = 5 ∨ j = 6 ∨ j = 7)) ∨ (i < a ∧ a ≤ i + 4)) : zFl w (zsi w a j x) i := ⟨rfl, rfl, fun a2 j2 h2 => by
  have h3 : ¬ a2 = a := by omega
  simp [zsi, h3], fun j2 h5 h6 h7 => by
  have h3 : ¬ (i = a ∧ j2 = j) := by omega
  simp [zsi, h3], fun _ _ _ => rfl⟩
theorem zWl.fr {w b : zW} {i R m : Nat} {T : zTo} {K : List zKy} (h : zWl w i R m T K) (h1 : b.2.2.1 (i + 1) = w.2.2.1 (i + 1)) (h2 : b.2.1 i 5 = w.2.1 i 5) (h3 : b.2.1 (i + 4) = w.2.1 (i + 4)) : zWl b i R m T K := by
  unfold zWl at *; rw [h1, h2, h3]; exact h
theorem zTi.fl {w b : zW} {i t : Nat} {T : zTo} (h : zTi w t T) (hf : zFl w b i) (ht : t + 4 < i) : zTi b t T := by
  obtain ⟨f1, f2, f3, -⟩ := hf
  obtain ⟨h0, h1, h2, h3, h4, h5⟩ := h
  refine ⟨?_, fun k a c => ?_, fun p a => ?_, fun p a => ?_, fun p a => ?_, fun p a => ?_⟩
  · unfold zTn at *; rw [f1, f2]; exact h0
  · rw [f3 t k (by omega)]; exact h1 k a c
  · rw [f3 _ p (by omega)]; exact h2 p a
  · rw [f3 _ p (by omega)]; exact h3 p a
  · rw [f3 _ p (by omega)]; exact h4 p a
  · rw [f3 _ p (by omega)]; exact h5 p a
theorem zWs.fl {w b : zW} {i R m : Nat} (h : zWs w i R m) (hf : zFl w b i) : zWs b i R m := zWs.fr h hf.1 hf.2.1 (hf.2.2.2.1 0 (by decide) (by decide) (by decide))
def zLh (w w1 : zW) (i R m n : Nat) (T : zTo) (k : zKy) (K : List zKy) (j j2 : Nat) : Prop :=
  zFl w w1 i ∧ w1.2.1 i 6 = w.2.1 i 6 ∧ w1.2.1 (i + 2) = (fun q => if q = n then nI (zbits (zmay T k) 8) else w.2.1 (i + 2) q) ∧ (∀ q, (q < n * 8 ∨ n * 8 + 8 ≤ q) → w1.2.1 (i + 3) q = w.2.1 (i + 3) q) ∧
  ((w1.2.1 i 7 = 1 ∧ zWl w1 i R m T (zgx T k K j2) ∧ ∀ y, y < j → zNx T (zgx T k K j2) (w1.2.1 (i + 3)) n k y) ∨ (w1.2.1 i 7 = 0 ∧ R < (zgx T k K j2).length ∧ ∃ K2 : List zKy, zWl w1 i R m T K2 ∧ K2[n]? = some k))
theorem zgx_get {T : zTo} {k : zKy} {K : List zKy} {n : Nat} (h : K[n]? = some k) (j : Nat) : (zgx T k K j)[n]? = some k := by
  obtain ⟨L, e⟩ := zgx_pre T k K j
  exact zpre_get e h
theorem zLh.key {w w1 : zW} {i R m n : Nat} {T : zTo} {k : zKy} {K : List zKy} {j j2 : Nat} (h : zLh w w1 i R m n T k K j j2) (hn : K[n]? = some k) : ∃ K2 : List zKy, zWl w1 i R m T K2 ∧ K2[n]? = some k := by
  obtain ⟨-, -, -, -, ⟨-, h1, -⟩ | ⟨-, -, h1⟩⟩ := h
  · exact ⟨_, h1, zgx_get hn j2⟩
  · exact h1
theorem zgx_len {T : zTo} {k : zKy} {K : List zKy} {j d : Nat} : (zgx T k K j).length ≤ (zgx T k K (j + d)).length := by
  obtain ⟨L, e⟩ := zgx_add T k K j d
  rw [e, List.length_append]; omega
set_option maxRecDepth 100000 in
theorem c_Ways_layHand (Δ : zD) (w : zW) (i t R m n : Nat) (T : zTo) (K : List zKy) (k : zKy) (hS : zWs w i R m) (hi : zTi w t T) (hT : zTok T) (hti : t + 4 < i) (hL : zWl w i R m T K) (hf7 : w.2.1 i 7 = 1) (hn : K[n]? = some k) : zMp Δ 2 yX6_layHand mX6_layHand [.ref i, .ref t, .int (nI n)] w (fun a b => a = none ∧ zLh w b i R m n T k K 8 8) := by
  refine zMp.of mfX6_layHand (Nat.le_of_ble_eq_true rfl) (fun QR hQ => ?_)
  have hS0 := hS
  obtain ⟨g0, r1, r2, r3, r4, g1, g2, g3, g4, hR, hRm, hm, hR0⟩ := hS
  have hnK : n < K.length := (List.getElem?_eq_some_iff.mp hn).1
  have hKR : K.length ≤ R := hL.2.2.1
  have hm2 : 2 ^ m ≤ 2 ^ 15 := Nat.pow_le_pow_right (by decide) hm
  have hk : zkok T k := hL.2.2.2.1 k (List.mem_iff_getElem?.mpr ⟨n, hn⟩)
  have cn : (nI n).toNatClampNeg = n := nI_clamp (by omega)
  have hbl : zbits (zmay T k) 8 < 256 := zbits_lt _ 8
  have L : ∀ j, j ≤ 8 → ∀ w1, zLh w w1 i R m n T k K j j → zJ Δ mX6_layHand (zRm 2 0 0) true w.1 QR (fun _ _ => False) 0 0 21 [(4, .int (nI j)), (3, .int (nI (zbits (zmay T k) 8))), (0, .ref i), (1, .ref t), (2, .int (nI n))] [] w1 := by
    refine zup (fun j hj ih w1 hI => ?_)
    have L68 : j < 8 → ∀ (x : Int32) (w2 : zW), zLh w w2 i R m n T k K j (j + 1) → ((w2.2.1 i 7 = 1 → (zmay T k j = true → ∃ c : Nat, (zgx T k K (j + 1))[c]? = some (zbk T k j) ∧ x = nI c) ∧ (zmay T k j = false → x = -1))) → zJ Δ mX6_layHand (zRm 2 0 0) true w.1 QR (fun _ _ => False) 0 0 68 [(5, .int x), (4, .int (nI j)), (3, .int (nI (zbits (zmay T k) 8))), (0, .ref i), (1, .ref t), (2, .int (nI n))] [] w2 := by
      intro hj9 x w2 hI2 hx
      have cj : (nI (n * 8 + j)).toNatClampNeg = n * 8 + j := nI_clamp (by omega)
      have hfl := hI2.1
      have f1 : w2.1 i = some (.inl 6) := by rw [hfl.1]; exact g0
      have f2 : w2.2.2.2 i 3 = some (i + 3) := by rw [hfl.2.1]; exact r3
      have f3 : w2.1 (i + 3) = some (.inr (false, R * 8)) := by rw [hfl.1]; exact g3
      refine zJ_aload_n dX6_layHand_68 rfl ?_
      refine zJ_getr dX6_layHand_69 fX6_26 (by first | rfl | assumption) rfl (by first | rfl | assumption) ?_
      refine zJ_iload_n dX6_layHand_72 rfl ?_
      refine zJ_bipush (v := 8) dX6_layHand_73 (by decide) ?_
      refine zJ_imul dX6_layHand_75 ?_
      refine zJ_iload dX6_layHand_76 rfl ?_
      refine zJ_iadd dX6_layHand_78 ?_
      rw [show nI n * 8 = nI (n * 8) from na_mul n 8, na_add]
      refine zJ_iload dX6_layHand_79 rfl ?_
      refine zJ_iast dX6_layHand_81 (by first | rfl | assumption) (vp_in_nI (by omega) (by omega)) ?_
      refine zJ_iinc (ls2 := fun x82 => [(4, .int x82), (5, .int x), (3, .int (nI (zbits (zmay T k) 8))), (0, .ref i), (1, .ref t), (2, .int (nI n))]) dX6_layHand_82 rfl (by decide) (fun _ => rfl) (fun x82 ex82 => ?_)
      refine zJ_goto (tgt := 21) dX6_layHand_85 (by decide) ?_
      refine zJ_ls [(4, .int x82), (3, .int (nI (zbits (zmay T k) 8))), (0, .ref i), (1, .ref t), (2, .int (nI n))] (by simp) ?_
      rw [ex82, show nI j + Int32.ofInt 1 = nI (j + 1) from nI_1 _]
      refine ih (j + 1) (by omega) (by omega) _ ?_
      rw [cj]
      refine ⟨hfl.tr (zFl.i (Or.inr ⟨by omega, by omega⟩)), ?_, ?_, fun q hq => ?_, ?_⟩
      · rw [← hI2.2.1]; simp [zsi]
      · rw [← hI2.2.2.1]; funext q; simp [zsi]
      · have h1 : ¬ q = n * 8 + j := by omega
        rw [← hI2.2.2.2.1 q hq]; simp [zsi, h1]
      · have hwl : ∀ K2, zWl w2 i R m T K2 → zWl (zsi w2 (i + 3) (n * 8 + j) x) i R m T K2 := fun K2 h => h.fr rfl (by simp [zsi]) (by funext q; simp [zsi])
        have h7 : (zsi w2 (i + 3) (n * 8 + j) x).2.1 i 7 = w2.2.1 i 7 := by simp [zsi]
        rcases hI2.2.2.2.2 with ⟨h1, h2, h3⟩ | ⟨h1, h2, K2, h3, h4⟩
        · refine Or.inl ⟨h7.trans h1, hwl _ h2, fun y hy => ?_⟩
          by_cases hyj : y = j
          · subst hyj
            refine ⟨fun hm => ?_, fun hm => ?_⟩
            · obtain ⟨c, hc1, hc2⟩ := (hx h1).1 hm
              exact ⟨c, hc1, by simp [zsi, hc2]⟩
            · simp [zsi, (hx h1).2 hm]
          · have h5 : ¬ n * 8 + y = n * 8 + j := by omega
            have h6 := h3 y (by omega)
            unfold zNx at *
            simp only [zsi, h5, and_false, if_false]
            exact h6
        · exact Or.inr ⟨h7.trans h1, h2, K2, hwl _ h3, h4⟩
    refine zJ_iload dX6_layHand_21 rfl ?_
    refine zJ_bipush (v := 8) dX6_layHand_23 (by decide) ?_
    refine zJ_icmp_ge (tgt := 88) dX6_layHand_25 (by decide) (fun h25 => ?_) (fun h25 => ?_)
    · have hj9 : j = 8 := by exact Nat.le_antisymm hj ((nI_leI (a := 8) (b := j) (by omega) (by omega)).mp h25)
      subst hj9
      exact zJ_vret dX6_layHand_88 rfl (by decide) (by decide) (hQ _ _ ⟨rfl, hI⟩)
    · have hj9 : j < 8 := Nat.lt_of_not_le fun h9 => h25 (by exact (nI_leI (a := 8) (b := j) (by omega) (by omega)).mpr h9)
      have f1 : w1.1 i = some (.inl 6) := by rw [hI.1.1]; exact g0
      have f2 : w1.2.2.2 i 1 = some (i + 1) := by rw [hI.1.2.1]; exact r1
      have f3 : w1.1 (i + 1) = some (.inr (true, R)) := by rw [hI.1.1]; exact g1
      refine zJ_iconst (v := (-1)) dX6_layHand_28 (by decide) ?_
      refine zJ_istore (ls2 := fun x29 => [(5, .int x29), (4, .int (nI j)), (3, .int (nI (zbits (zmay T k) 8))), (0, .ref i), (1, .ref t), (2, .int (nI n))]) dX6_layHand_29 (by decide) (fun _ => rfl) (fun x29 ex29 => ?_)
      refine zJ_iload_n dX6_layHand_31 rfl ?_
      refine zJ_iload dX6_layHand_32 rfl ?_
      refine zJ_ishr dX6_layHand_34 ?_
      refine zJ_iconst (v := 1) dX6_layHand_35 (by decide) ?_
      refine zJ_iand dX6_layHand_36 ?_
      rw [nI_bit (by omega) (by omega)]
      refine zJ_if_eq (tgt := 68) dX6_layHand_37 (by decide) (fun h37 => ?_) (fun h37 => ?_)
      · have hno : zmay T k j = false := by
          have h1 := zbits_tb (zmay T k) 8 j
          cases hz : zmay T k j with
          | false => rfl
          | true =>
            rw [hz] at h1
            have h2 : (zbits (zmay T k) 8).testBit j = true := by rw [h1]; simp; omega
            rw [Nat.testBit_eq_decide_div_mod_eq] at h2
            have h3 : zbits (zmay T k) 8 / 2 ^ j % 2 = 1 := of_decide_eq_true h2
            rw [h3] at h37
            exact absurd h37 (by decide)
        refine zJ_ls [(5, .int x29), (4, .int (nI j)), (3, .int (nI (zbits (zmay T k) 8))), (0, .ref i), (1, .ref t), (2, .int (nI n))] (by simp) (L68 hj9 x29 w1 ?_ (fun _ => ⟨fun h => (by rw [hno] at h; cases h), fun _ => ex29⟩))
        have e : zgx T k K (j + 1) = zgx T k K j := by simp [zgx, hno]
        unfold zLh
        rw [e]; exact hI
      · have hyes : zmay T k j = true := by
          have h1 := zbits_tb (zmay T k) 8 j
          cases hz : zmay T k j with
          | true => rfl
          | false =>
            rw [hz, Bool.and_false, Nat.testBit_eq_decide_div_mod_eq] at h1
            have h2 : ¬ zbits (zmay T k) 8 / 2 ^ j % 2 = 1 := of_decide_eq_false h1
            have h3 : zbits (zmay T k) 8 / 2 ^ j % 2 = 0 := by omega
            exact absurd (by rw [h3]; rfl) h37
        obtain ⟨K1, hK1, hK1n⟩ := hI.key hn
        have hi1 : zTi w1 t T := hi.fl hI.1 hti
        have hS1 : zWs w1 i R m := hS0.fl hI.1
        have hbok : zkok T (zbk T k j) := zkok.bk hk hj9 hyes
        have hgx : zgx T k K (j + 1) = zins (zgx T k K j) (zbk T k j) := by simp [zgx, hyes]
        have hup : (zgx T k K j).length ≤ (zgx T k K (j + 1)).length := zgx_len (d := 1)
        refine zJ_aload_n dX6_layHand_40 rfl ?_
        refine zJ_aload_n dX6_layHand_41 rfl ?_
        refine zJ_aload_n dX6_layHand_42 rfl ?_
        refine zJ_getr dX6_layHand_43 fX6_18 (by first | rfl | assumption) rfl (by first | rfl | assumption) ?_
        refine zJ_iload_n dX6_layHand_46 rfl ?_
        refine zJ_lald dX6_layHand_47 (by first | rfl | assumption) (vp_in_nI (by omega) (by omega)) ?_
        rw [cn, hK1.1 n k hK1n]
        refine zJ_iload dX6_layHand_48 rfl ?_
        refine zJ_cS3 dX6_layHand_50 sX6_94 mfX6_keyBehind (c_Ways_keyBehind Δ w1 t j k T hi1 hT hk hj9) (Nat.le_of_ble_eq_true rfl) (by decide) (by decide) ?_
        obtain ⟨i1, i2, i3, i4, i5⟩ := hI
        rcases i5 with ⟨a1, a2, a3⟩ | ⟨b1, b2, K2, b3, b4⟩
        · refine zJ_eV1 dX6_layHand_53 sX6_79 mfX6_placeOf (c_Ways_placeOf Δ w1 i R m T (zgx T k K j) (zbk T k j) hS1 a2 hT hbok) f1 rfl (Nat.le_of_ble_eq_true rfl) (by decide) (by decide) (fun r w2 hP => ?_)
          rcases hP with ⟨c, hc, rfl, rfl⟩ | ⟨hkn, hlt, rfl, hw2, hfr⟩ | ⟨hkn, hful, rfl, rfl⟩
          · have hcl : c < 2 ^ 31 := by
              have := (List.getElem?_eq_some_iff.mp hc).1
              have := a2.2.2.1
              omega
            refine zJ_istore (ls2 := fun x56v => [(5, .int x56v), (4, .int (nI j)), (3, .int (nI (zbits (zmay T k) 8))), (0, .ref i), (1, .ref t), (2, .int (nI n))]) dX6_layHand_56 (by decide) (fun _ => rfl) (fun x56v ex56v => ?_)
            obtain rfl : x56v = (nI c) := ex56v
            refine zJ_iload dX6_layHand_58 rfl ?_
            refine zJ_if_ge (tgt := 68) dX6_layHand_60 (by decide) (fun h60v => ?_) (fun h60v => ?_)
            · refine zJ_ls [(5, .int (nI c)), (4, .int (nI j)), (3, .int (nI (zbits (zmay T k) 8))), (0, .ref i), (1, .ref t), (2, .int (nI n))] (by simp) (L68 hj9 _ _ ?_ ?_)
              · have hmem : zbk T k j ∈ zgx T k K j := List.mem_iff_getElem?.mpr ⟨c, hc⟩
                have e : zgx T k K (j + 1) = zgx T k K j := by rw [hgx, zins, if_pos hmem]
                refine ⟨i1, i2, i3, i4, Or.inl ?_⟩
                rw [e]; exact ⟨a1, a2, a3⟩
              · have hmem : zbk T k j ∈ zgx T k K j := List.mem_iff_getElem?.mpr ⟨c, hc⟩
                have e : zgx T k K (j + 1) = zgx T k K j := by rw [hgx, zins, if_pos hmem]
                rw [e]
                exact fun _ => ⟨fun _ => ⟨c, hc, rfl⟩, fun h => by rw [hyes] at h; cases h⟩
            · exact absurd ((nI_leI (a := 0) (by decide) (by omega)).mpr (Nat.zero_le _)) h60v
          · have f9 : w2.1 i = some (.inl 6) := by rw [hfr.1]; exact f1
            refine zJ_istore (ls2 := fun x56v => [(5, .int x56v), (4, .int (nI j)), (3, .int (nI (zbits (zmay T k) 8))), (0, .ref i), (1, .ref t), (2, .int (nI n))]) dX6_layHand_56 (by decide) (fun _ => rfl) (fun x56v ex56v => ?_)
            obtain rfl : x56v = (nI (zgx T k K j).length) := ex56v
            refine zJ_iload dX6_layHand_58 rfl ?_
            refine zJ_if_ge (tgt := 68) dX6_layHand_60 (by decide) (fun h60v => ?_) (fun h60v => ?_)
            · refine zJ_ls [(5, .int (nI (zgx T k K j).length)), (4, .int (nI j)), (3, .int (nI (zbits (zmay T k) 8))), (0, .ref i), (1, .ref t), (2, .int (nI n))] (by simp) (L68 hj9 _ _ ?_ ?_)
              · have e : zgx T k K (j + 1) = zgx T k K j ++ [zbk T k j] := by rw [hgx, zins, if_neg hkn]
                refine ⟨i1.tr hfr.fl, ?_, ?_, fun q hq => ?_, Or.inl ⟨?_, by rw [e]; exact hw2, fun y hy => ?_⟩⟩
                · rw [hfr.2.2.1 i 6 (by omega) (Or.inr (by decide))]; exact i2
                · rw [← i3]; funext q; exact hfr.2.2.1 _ _ (by omega) (Or.inl (by omega))
                · rw [hfr.2.2.1 _ _ (by omega) (Or.inl (by omega))]; exact i4 q hq
                · rw [hfr.2.2.1 i 7 (by omega) (Or.inr (by decide))]; exact a1
                · have e3 : w2.2.1 (i + 3) = w1.2.1 (i + 3) := by funext q; exact hfr.2.2.1 _ _ (by omega) (Or.inl (by omega))
                  rw [e3]; exact (a3 y hy).app e
              · have e : zgx T k K (j + 1) = zgx T k K j ++ [zbk T k j] := by rw [hgx, zins, if_neg hkn]
                rw [e]
                exact fun _ => ⟨fun _ => ⟨_, by simp, rfl⟩, fun h => by rw [hyes] at h; cases h⟩
            · exact absurd ((nI_leI (a := 0) (by decide) (by omega)).mpr (Nat.zero_le _)) h60v
          · refine zJ_istore (ls2 := fun x56v => [(5, .int x56v), (4, .int (nI j)), (3, .int (nI (zbits (zmay T k) 8))), (0, .ref i), (1, .ref t), (2, .int (nI n))]) dX6_layHand_56 (by decide) (fun _ => rfl) (fun x56v ex56v => ?_)
            obtain rfl : x56v = (-1) := ex56v
            refine zJ_iload dX6_layHand_58 rfl ?_
            refine zJ_if_ge (tgt := 68) dX6_layHand_60 (by decide) (fun h60v => ?_) (fun h60v => ?_)
            · exact absurd h60v (by decide)
            · refine zJ_aload_n dX6_layHand_63 rfl ?_
              refine zJ_iconst (v := 0) dX6_layHand_64 (by decide) ?_
              refine zJ_puti dX6_layHand_65 fX6_82 (fun q h => by cases h; rfl) (by first | rfl | assumption) rfl rfl rfl ?_
              refine zJ_ls [(5, .int (-1)), (4, .int (nI j)), (3, .int (nI (zbits (zmay T k) 8))), (0, .ref i), (1, .ref t), (2, .int (nI n))] (by simp) (L68 hj9 _ _ ?_ ?_)
              · have e : zgx T k K (j + 1) = zgx T k K j ++ [zbk T k j] := by rw [hgx, zins, if_neg hkn]
                refine ⟨i1.tr (zFl.i (Or.inl ⟨rfl, Or.inr (Or.inr rfl)⟩)), ?_, ?_, fun q hq => ?_, Or.inr ⟨?_, by rw [e]; simp; omega, _, a2.fr rfl (by simp [zsi]) (by funext q; simp [zsi]), zgx_get hn j⟩⟩
                · rw [← i2]; simp [zsi]
                · rw [← i3]; funext q; simp [zsi]
                · rw [← i4 q hq]; simp [zsi]
                · simp [zsi]
              · exact fun h => by simp [zsi] at h
        · refine zJ_eV1 dX6_layHand_53 sX6_79 mfX6_placeOf (c_Ways_placeOf Δ w1 i R m T K2 (zbk T k j) hS1 b3 hT hbok) f1 rfl (Nat.le_of_ble_eq_true rfl) (by decide) (by decide) (fun r w2 hP => ?_)
          rcases hP with ⟨c, hc, rfl, rfl⟩ | ⟨hkn, hlt, rfl, hw2, hfr⟩ | ⟨hkn, hful, rfl, rfl⟩
          · have hcl : c < 2 ^ 31 := by
              have := (List.getElem?_eq_some_iff.mp hc).1
              have := b3.2.2.1
              omega
            refine zJ_istore (ls2 := fun x56v => [(5, .int x56v), (4, .int (nI j)), (3, .int (nI (zbits (zmay T k) 8))), (0, .ref i), (1, .ref t), (2, .int (nI n))]) dX6_layHand_56 (by decide) (fun _ => rfl) (fun x56v ex56v => ?_)
            obtain rfl : x56v = (nI c) := ex56v
            refine zJ_iload dX6_layHand_58 rfl ?_
            refine zJ_if_ge (tgt := 68) dX6_layHand_60 (by decide) (fun h60v => ?_) (fun h60v => ?_)
            · refine zJ_ls [(5, .int (nI c)), (4, .int (nI j)), (3, .int (nI (zbits (zmay T k) 8))), (0, .ref i), (1, .ref t), (2, .int (nI n))] (by simp) (L68 hj9 _ _ ?_ ?_)
              · exact ⟨i1, i2, i3, i4, Or.inr ⟨b1, Nat.lt_of_lt_of_le b2 hup, K2, b3, b4⟩⟩
              · exact fun h => by rw [b1] at h; exact absurd h (by decide)
            · exact absurd ((nI_leI (a := 0) (by decide) (by omega)).mpr (Nat.zero_le _)) h60v
          · have f9 : w2.1 i = some (.inl 6) := by rw [hfr.1]; exact f1
            refine zJ_istore (ls2 := fun x56v => [(5, .int x56v), (4, .int (nI j)), (3, .int (nI (zbits (zmay T k) 8))), (0, .ref i), (1, .ref t), (2, .int (nI n))]) dX6_layHand_56 (by decide) (fun _ => rfl) (fun x56v ex56v => ?_)
            obtain rfl : x56v = (nI K2.length) := ex56v
            refine zJ_iload dX6_layHand_58 rfl ?_
            refine zJ_if_ge (tgt := 68) dX6_layHand_60 (by decide) (fun h60v => ?_) (fun h60v => ?_)
            · refine zJ_ls [(5, .int (nI K2.length)), (4, .int (nI j)), (3, .int (nI (zbits (zmay T k) 8))), (0, .ref i), (1, .ref t), (2, .int (nI n))] (by simp) (L68 hj9 _ _ ?_ ?_)
              · refine ⟨i1.tr hfr.fl, ?_, ?_, fun q hq => ?_, Or.inr ⟨?_, Nat.lt_of_lt_of_le b2 hup, _, hw2, zpre_get rfl b4⟩⟩
                · rw [hfr.2.2.1 i 6 (by omega) (Or.inr (by decide))]; exact i2
                · rw [← i3]; funext q; exact hfr.2.2.1 _ _ (by omega) (Or.inl (by omega))
                · rw [hfr.2.2.1 _ _ (by omega) (Or.inl (by omega))]; exact i4 q hq
                · rw [hfr.2.2.1 i 7 (by omega) (Or.inr (by decide))]; exact b1
              · exact fun h => by rw [hfr.2.2.1 i 7 (by omega) (Or.inr (by decide)), b1] at h; exact absurd h (by decide)
            · exact absurd ((nI_leI (a := 0) (by decide) (by omega)).mpr (Nat.zero_le _)) h60v
          · refine zJ_istore (ls2 := fun x56v => [(5, .int x56v), (4, .int (nI j)), (3, .int (nI (zbits (zmay T k) 8))), (0, .ref i), (1, .ref t), (2, .int (nI n))]) dX6_layHand_56 (by decide) (fun _ => rfl) (fun x56v ex56v => ?_)
            obtain rfl : x56v = (-1) := ex56v
            refine zJ_iload dX6_layHand_58 rfl ?_
            refine zJ_if_ge (tgt := 68) dX6_layHand_60 (by decide) (fun h60v => ?_) (fun h60v => ?_)
            · exact absurd h60v (by decide)
            · refine zJ_aload_n dX6_layHand_63 rfl ?_
              refine zJ_iconst (v := 0) dX6_layHand_64 (by decide) ?_
              refine zJ_puti dX6_layHand_65 fX6_82 (fun q h => by cases h; rfl) (by first | rfl | assumption) rfl rfl rfl ?_
              refine zJ_ls [(5, .int (-1)), (4, .int (nI j)), (3, .int (nI (zbits (zmay T k) 8))), (0, .ref i), (1, .ref t), (2, .int (nI n))] (by simp) (L68 hj9 _ _ ?_ ?_)
              · refine ⟨i1.tr (zFl.i (Or.inl ⟨rfl, Or.inr (Or.inr rfl)⟩)), ?_, ?_, fun q hq => ?_, Or.inr ⟨?_, Nat.lt_of_lt_of_le b2 hup, K2, b3.fr rfl (by simp [zsi]) (by funext q; simp [zsi]), b4⟩⟩
                · rw [← i2]; simp [zsi]
                · rw [← i3]; funext q; simp [zsi]
                · rw [← i4 q hq]; simp [zsi]
                · simp [zsi]
              · exact fun h => by simp [zsi] at h
  refine zJ_aload_n dX6_layHand_0 rfl ?_
  refine zJ_aload_n dX6_layHand_1 rfl ?_
  refine zJ_getr dX6_layHand_2 fX6_18 (by first | rfl | assumption) rfl (by first | rfl | assumption) ?_
  refine zJ_iload_n dX6_layHand_5 rfl ?_
  refine zJ_lald dX6_layHand_6 (by first | rfl | assumption) (vp_in_nI (by omega) (by omega)) ?_
  rw [cn, hL.1 n k hn]
  refine zJ_cS2 dX6_layHand_7 sX6_90 mfX6_maySendTo (c_Ways_maySendTo Δ w t k T hi hT hk) (Nat.le_of_ble_eq_true rfl) (by decide) (by decide) ?_
  refine zJ_istore_n (ls2 := fun x10 => [(3, .int x10), (0, .ref i), (1, .ref t), (2, .int (nI n))]) dX6_layHand_10 (by decide) (fun _ => rfl) (fun x10 ex10 => ?_)
  obtain rfl : x10 = (nI (zbits (zmay T k) 8)) := ex10
  refine zJ_aload_n dX6_layHand_11 rfl ?_
  refine zJ_getr dX6_layHand_12 fX6_22 (by first | rfl | assumption) rfl (by first | rfl | assumption) ?_
  refine zJ_iload_n dX6_layHand_15 rfl ?_
  refine zJ_iload_n dX6_layHand_16 rfl ?_
  refine zJ_iast dX6_layHand_17 (by first | rfl | assumption) (vp_in_nI (by omega) (by omega)) ?_
  refine zJ_iconst (v := 0) dX6_layHand_18 (by decide) ?_
  refine zJ_istore (ls2 := fun x19 => [(4, .int x19), (3, .int (nI (zbits (zmay T k) 8))), (0, .ref i), (1, .ref t), (2, .int (nI n))]) dX6_layHand_19 (by decide) (fun _ => rfl) (fun x19 ex19 => ?_)
  obtain rfl : x19 = (nI 0) := ex19
  refine L 0 (Nat.zero_le _) _ ?_
  rw [cn]
  refine ⟨zFl.i (Or.inr ⟨by omega, by omega⟩), by simp [zsi], ?_, fun q _ => by simp [zsi], Or.inl ⟨by simp [zsi, hf7], hL.fr rfl (by simp [zsi]) (by funext q; simp [zsi]), fun y hy => absurd hy (Nat.not_lt_zero y)⟩⟩
  funext q; simp [zsi]
