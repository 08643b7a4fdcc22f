/-! the model: bits, nearest, thieves, luck -/
set_option maxRecDepth 100000 in
theorem c_Mo_bits (Δ : zD) (w : zW) (v : Nat) (hv : v < 256) : zMd Δ 0 0 0 true yX9_bits mX9_bits [.int (nI v)] w (some (.int (nI (zpop v)))) w := by
  refine zMd.of mfX9_bits (Nat.le_of_ble_eq_true rfl) (fun QR hQ => ?_)
  have L : ∀ j, j ≤ 8 → zJ Δ mX9_bits (zRm 0 0 0) true w.1 QR (fun _ _ => False) 0 0 4 [(2, .int (nI j)), (1, .int (nI (fb_sm (fun i => v / 2 ^ i % 2) j))), (0, .int (nI v))] [] w := by
    refine zup (fun j hj ih => ?_)
    refine zJ_iload_n dX9_bits_4 rfl ?_
    refine zJ_bipush (v := 8) dX9_bits_5 (by decide) ?_
    refine zJ_icmp_ge (tgt := 24) dX9_bits_7 (by decide) (fun h7 => ?_) (fun h7 => ?_)
    · have hj9 : j = 8 := by exact Nat.le_antisymm hj ((nI_leI (a := 8) (b := j) (by omega) (by omega)).mp h7)
      subst hj9
      rw [show fb_sm (fun i => v / 2 ^ i % 2) 8 = zpop v by simp [fb_sm, zpop]]
      refine zJ_iload_n dX9_bits_24 rfl ?_
      exact zJ_iret dX9_bits_25 rfl (by decide) (by decide) hQ
    · have hj9 : j < 8 := Nat.lt_of_not_le fun hq9 => h7 (by exact (nI_leI (a := 8) (b := j) (by omega) (by omega)).mpr hq9)
      refine zJ_iload_n dX9_bits_10 rfl ?_
      refine zJ_iload_n dX9_bits_11 rfl ?_
      refine zJ_iload_n dX9_bits_12 rfl ?_
      refine zJ_ishr dX9_bits_13 ?_
      refine zJ_iconst (v := 1) dX9_bits_14 (by decide) ?_
      refine zJ_iand dX9_bits_15 ?_
      rw [nI_bit (by omega) (by omega)]
      refine zJ_iadd dX9_bits_16 ?_
      rw [na_add]
      refine zJ_istore_n (ls2 := fun x17 => [(1, .int x17), (2, .int (nI j)), (0, .int (nI v))]) dX9_bits_17 (by decide) (fun _ => rfl) (fun x17 ex17 => ?_)
      obtain rfl : x17 = (nI (fb_sm (fun i => v / 2 ^ i % 2) (j + 1))) := ex17
      refine zJ_iinc (ls2 := fun x18 => [(2, .int x18), (1, .int (nI (fb_sm (fun i => v / 2 ^ i % 2) (j + 1)))), (0, .int (nI v))]) dX9_bits_18 rfl (by decide) (fun _ => rfl) (fun x18 ex18 => ?_)
      refine zJ_goto (tgt := 4) dX9_bits_21 (by decide) ?_
      refine zJ_ls [(2, .int x18), (1, .int (nI (fb_sm (fun i => v / 2 ^ i % 2) (j + 1)))), (0, .int (nI v))] (by simp) ?_
      rw [ex18, show nI j + Int32.ofInt 1 = nI (j + 1) from nI_1 _]
      exact ih (j + 1) (by omega) (by omega)
  refine zJ_iconst (v := 0) dX9_bits_0 (by decide) ?_
  refine zJ_istore_n (ls2 := fun x1 => [(1, .int x1), (0, .int (nI v))]) dX9_bits_1 (by decide) (fun _ => rfl) (fun x1 ex1 => ?_)
  obtain rfl : x1 = (nI (fb_sm (fun i => v / 2 ^ i % 2) 0)) := ex1
  refine zJ_iconst (v := 0) dX9_bits_2 (by decide) ?_
  refine zJ_istore_n (ls2 := fun x3 => [(2, .int x3), (1, .int (nI (fb_sm (fun i => v / 2 ^ i % 2) 0))), (0, .int (nI v))]) dX9_bits_3 (by decide) (fun _ => rfl) (fun x3 ex3 => ?_)
  obtain rfl : x3 = (nI 0) := ex3
  exact L 0 (Nat.zero_le _)
set_option maxRecDepth 100000 in
theorem c_Mo_nearest (Δ : zD) (w : zW) (hM : zMs w) (np se : Nat) (v : Nat → Nat) (hnp : np ≤ 8) (hp1 : w.2.1 100 1 = nI np) (hse : se ≤ 256) (hv : ∀ p, p < np → w.2.1 174 p = nI (v p) ∧ v p ≤ 256) : zMd Δ 0 0 0 true yX9_nearest mX9_nearest [.ref 100, .int (nI se)] w (some (.int (zoi (zwa v se np)))) w := by
  refine zMd.of mfX9_nearest (Nat.le_of_ble_eq_true rfl) (fun QR hQ => ?_)
  have hne : ∀ j, j ≤ np → zne v se (zwa v se j) ≤ 600 := fun j hj => by
    cases hz : zwa v se j with
    | none => simp [zne]
    | some q =>
      have hq := zwa_lt v se j q hz
      have := (hv q (by omega)).2
      simp only [zne, zof]; split <;> omega
  have L : ∀ j, j ≤ np → zJ Δ mX9_nearest (zRm 0 0 0) true w.1 QR (fun _ _ => False) 0 0 7 [(4, .int (nI j)), (3, .int (nI (zne v se (zwa v se j)))), (2, .int (zoi (zwa v se j))), (0, .ref 100), (1, .int (nI se))] [] w := by
    refine zup (fun j hj ih => ?_)
    have hnj := hne j hj
    have J44 : j < np → zJ Δ mX9_nearest (zRm 0 0 0) true w.1 QR (fun _ _ => False) 0 0 44 [(5, .int (nI (zof v se j))), (4, .int (nI j)), (3, .int (nI (zne v se (zwa v se j)))), (2, .int (zoi (zwa v se j))), (0, .ref 100), (1, .int (nI se))] [] w := by
      intro hj9
      have hofj : zof v se j ≤ 600 := by
        have := (hv j hj9).2
        simp only [zof]; split <;> omega
      have stp : zwa v se (j + 1) = match zwa v se j with | none => some j | some q => if zof v se j < zof v se q then some j else some q := rfl
      cases hz : zwa v se j with
      | none =>
        refine zJ_iload_n dX9_nearest_44 rfl ?_
        refine zJ_iconst (v := (-1)) dX9_nearest_45 (by decide) ?_
        refine zJ_icmp_eq (tgt := 58) dX9_nearest_46 (by decide) (fun _ => ?_) (fun h9 => False.elim (by revert h9; decide))
        refine zJ_iload dX9_nearest_58 rfl ?_
        refine zJ_istore_n (ls2 := fun x60a => [(2, .int x60a), (5, .int (nI (zof v se j))), (4, .int (nI j)), (3, .int (nI (zne v se none))), (0, .ref 100), (1, .int (nI se))]) dX9_nearest_60 (by decide) (fun _ => rfl) (fun x60a ex60a => ?_)
        obtain rfl : x60a = (nI j) := ex60a
        refine zJ_iload dX9_nearest_61 rfl ?_
        refine zJ_istore_n (ls2 := fun x63a => [(3, .int x63a), (2, .int (nI j)), (5, .int (nI (zof v se j))), (4, .int (nI j)), (0, .ref 100), (1, .int (nI se))]) dX9_nearest_63 (by decide) (fun _ => rfl) (fun x63a ex63a => ?_)
        obtain rfl : x63a = (nI (zof v se j)) := ex63a
        refine zJ_ls [(4, .int (nI j)), (3, .int (nI (zof v se j))), (2, .int (nI j)), (0, .ref 100), (1, .int (nI se))] (by simp) ?_
        refine zJ_iinc (ls2 := fun x64 => [(4, .int x64), (3, .int (nI (zof v se j))), (2, .int (nI j)), (0, .ref 100), (1, .int (nI se))]) dX9_nearest_64 rfl (by decide) (fun _ => rfl) (fun x64 ex64 => ?_)
        refine zJ_goto (tgt := 7) dX9_nearest_67 (by decide) ?_
        rw [ex64, show nI j + Int32.ofInt 1 = nI (j + 1) from nI_1 _]
        have e : zwa v se (j + 1) = some j := by rw [stp, hz]
        have := ih (j + 1) (by omega) (by omega)
        rw [e] at this
        exact this
      | some q =>
        have hq := zwa_lt v se j q hz
        have hq2 := (hv q (by omega)).2
        have hofq : zof v se q ≤ 600 := by simp only [zof]; split <;> omega
        by_cases hlt : zof v se j < zof v se q
        · refine zJ_iload_n dX9_nearest_44 rfl ?_
          refine zJ_iconst (v := (-1)) dX9_nearest_45 (by decide) ?_
          refine zJ_icmp_eq (tgt := 58) dX9_nearest_46 (by decide) (fun h9 => absurd h9 (nI_m1 (show q < 2 ^ 31 by omega))) (fun h46b => ?_)
          refine zJ_iload dX9_nearest_49 rfl ?_
          refine zJ_iload_n dX9_nearest_51 rfl ?_
          refine zJ_icmp_lt (tgt := 58) dX9_nearest_52 (by decide) (fun h52b => ?_) (fun h9 => absurd ((nI_ltI (by omega) (by first | omega | (simp only [zne]; omega))).mpr hlt) h9)
          refine zJ_iload dX9_nearest_58 rfl ?_
          refine zJ_istore_n (ls2 := fun x60b => [(2, .int x60b), (5, .int (nI (zof v se j))), (4, .int (nI j)), (3, .int (nI (zne v se (some q)))), (0, .ref 100), (1, .int (nI se))]) dX9_nearest_60 (by decide) (fun _ => rfl) (fun x60b ex60b => ?_)
          obtain rfl : x60b = (nI j) := ex60b
          refine zJ_iload dX9_nearest_61 rfl ?_
          refine zJ_istore_n (ls2 := fun x63b => [(3, .int x63b), (2, .int (nI j)), (5, .int (nI (zof v se j))), (4, .int (nI j)), (0, .ref 100), (1, .int (nI se))]) dX9_nearest_63 (by decide) (fun _ => rfl) (fun x63b ex63b => ?_)
          obtain rfl : x63b = (nI (zof v se j)) := ex63b
          refine zJ_ls [(4, .int (nI j)), (3, .int (nI (zof v se j))), (2, .int (nI j)), (0, .ref 100), (1, .int (nI se))] (by simp) ?_
          refine zJ_iinc (ls2 := fun x64 => [(4, .int x64), (3, .int (nI (zof v se j))), (2, .int (nI j)), (0, .ref 100), (1, .int (nI se))]) dX9_nearest_64 rfl (by decide) (fun _ => rfl) (fun x64 ex64 => ?_)
          refine zJ_goto (tgt := 7) dX9_nearest_67 (by decide) ?_
          rw [ex64, show nI j + Int32.ofInt 1 = nI (j + 1) from nI_1 _]
          have e : zwa v se (j + 1) = some j := by rw [stp, hz]; exact if_pos hlt
          have := ih (j + 1) (by omega) (by omega)
          rw [e] at this
          exact this
        · refine zJ_iload_n dX9_nearest_44 rfl ?_
          refine zJ_iconst (v := (-1)) dX9_nearest_45 (by decide) ?_
          refine zJ_icmp_eq (tgt := 58) dX9_nearest_46 (by decide) (fun h9 => absurd h9 (nI_m1 (show q < 2 ^ 31 by omega))) (fun h46c => ?_)
          refine zJ_iload dX9_nearest_49 rfl ?_
          refine zJ_iload_n dX9_nearest_51 rfl ?_
          refine zJ_icmp_lt (tgt := 58) dX9_nearest_52 (by decide) (fun h9 => absurd h9 (fun h => hlt ((nI_ltI (by omega) (by first | omega | (simp only [zne]; omega))).mp h))) (fun h52c => ?_)
          refine zJ_goto (tgt := 64) dX9_nearest_55 (by decide) ?_
          refine zJ_ls [(4, .int (nI j)), (3, .int (nI (zne v se (some q)))), (2, .int (zoi (some q))), (0, .ref 100), (1, .int (nI se))] (by simp) ?_
          refine zJ_iinc (ls2 := fun x64 => [(4, .int x64), (3, .int (nI (zne v se (some q)))), (2, .int (zoi (some q))), (0, .ref 100), (1, .int (nI se))]) dX9_nearest_64 rfl (by decide) (fun _ => rfl) (fun x64 ex64 => ?_)
          refine zJ_goto (tgt := 7) dX9_nearest_67 (by decide) ?_
          rw [ex64, show nI j + Int32.ofInt 1 = nI (j + 1) from nI_1 _]
          have e : zwa v se (j + 1) = some q := by rw [stp, hz]; exact if_neg hlt
          have := ih (j + 1) (by omega) (by omega)
          rw [e] at this
          exact this
    refine zJ_iload dX9_nearest_7 rfl ?_
    refine zJ_aload_n dX9_nearest_9 rfl ?_
    refine zJ_getiN dX9_nearest_10 fX9_298 (by first | rfl | assumption | exact hM.at (by decide) (by decide)) rfl hp1 ?_
    refine zJ_icmp_ge (tgt := 70) dX9_nearest_13 (by decide) (fun h13 => ?_) (fun h13 => ?_)
    · have hj9 : j = np := Nat.le_antisymm hj ((nI_leI (by omega) (by omega)).mp h13)
      subst hj9
      refine zJ_iload_n dX9_nearest_70 rfl ?_
      exact zJ_iret dX9_nearest_71 rfl (by decide) (by decide) hQ
    · have hj9 : j < np := Nat.lt_of_not_le fun hq9 => h13 ((nI_leI (by omega) (by omega)).mpr hq9)
      have hvj := (hv j hj9).2
      refine zJ_iconst (v := 2) dX9_nearest_16 (by decide) ?_
      refine zJ_aload_n dX9_nearest_17 rfl ?_
      refine zJ_getr (j := 174) dX9_nearest_18 fX9_134 (by first | rfl | assumption | exact hM.at (by decide) (by decide)) rfl (by first | rfl | assumption | exact hM.rf (by decide) rfl) ?_
      refine zJ_iload dX9_nearest_21 rfl ?_
      refine zJ_ialdN (i := j) (v := (nI (v j))) dX9_nearest_23 (by first | rfl | assumption | exact hM.at (by decide) (by decide)) rfl (by omega) (by decide) (hv j hj9).1 ?_
      refine zJ_imul dX9_nearest_24 ?_
      rw [show (2 : Int32) * nI (v j) = nI (2 * v j) from na_mul 2 _]
      refine zJ_iload_n dX9_nearest_25 rfl ?_
      refine zJ_isub dX9_nearest_26 ?_
      refine zJ_istore (ls2 := fun x27 => [(5, .int x27), (4, .int (nI j)), (3, .int (nI (zne v se (zwa v se j)))), (2, .int (zoi (zwa v se j))), (0, .ref 100), (1, .int (nI se))]) dX9_nearest_27 (by decide) (fun _ => rfl) (fun x27 ex27 => ?_)
      obtain rfl : x27 = (nI (2 * v j) - nI se) := ex27
      refine zJ_iload dX9_nearest_29 rfl ?_
      refine zJ_if_ge (tgt := 40) dX9_nearest_31 (by decide) (fun h31 => ?_) (fun h31 => ?_)
      · refine zJ_iload dX9_nearest_40 rfl ?_
        refine zJ_istore (ls2 := fun x42 => [(5, .int x42), (4, .int (nI j)), (3, .int (nI (zne v se (zwa v se j)))), (2, .int (zoi (zwa v se j))), (0, .ref 100), (1, .int (nI se))]) dX9_nearest_42 (by decide) (fun _ => rfl) (fun x42 ex42 => ?_)
        obtain rfl : x42 = nI (if 2 * v j ≤ se then se - 2 * v j else 2 * v j - se) := (by rw [ex42, ← zabs (2 * v j) se (by omega) (by omega), if_pos h31])
        exact J44 hj9
      · refine zJ_iload dX9_nearest_34 rfl ?_
        refine zJ_ineg dX9_nearest_36 ?_
        refine zJ_goto (tgt := 42) dX9_nearest_37 (by decide) ?_
        refine zJ_istore (ls2 := fun x42 => [(5, .int x42), (4, .int (nI j)), (3, .int (nI (zne v se (zwa v se j)))), (2, .int (zoi (zwa v se j))), (0, .ref 100), (1, .int (nI se))]) dX9_nearest_42 (by decide) (fun _ => rfl) (fun x42 ex42 => ?_)
        obtain rfl : x42 = nI (if 2 * v j ≤ se then se - 2 * v j else 2 * v j - se) := (by rw [ex42, ← zabs (2 * v j) se (by omega) (by omega), if_neg h31])
        exact J44 hj9
  refine zJ_iconst (v := (-1)) dX9_nearest_0 (by decide) ?_
  refine zJ_istore_n (ls2 := fun x1 => [(2, .int x1), (0, .ref 100), (1, .int (nI se))]) dX9_nearest_1 (by decide) (fun _ => rfl) (fun x1 ex1 => ?_)
  obtain rfl : x1 = (zoi (zwa v se 0)) := ex1
  refine zJ_iconst (v := 0) dX9_nearest_2 (by decide) ?_
  refine zJ_istore_n (ls2 := fun x3 => [(3, .int x3), (2, .int (zoi (zwa v se 0))), (0, .ref 100), (1, .int (nI se))]) dX9_nearest_3 (by decide) (fun _ => rfl) (fun x3 ex3 => ?_)
  obtain rfl : x3 = (nI (zne v se (zwa v se 0))) := ex3
  refine zJ_iconst (v := 0) dX9_nearest_4 (by decide) ?_
  refine zJ_istore (ls2 := fun x5 => [(4, .int x5), (3, .int (nI (zne v se (zwa v se 0)))), (2, .int (zoi (zwa v se 0))), (0, .ref 100), (1, .int (nI se))]) dX9_nearest_5 (by decide) (fun _ => rfl) (fun x5 ex5 => ?_)
  obtain rfl : x5 = (nI 0) := ex5
  exact L 0 (Nat.zero_le _)
