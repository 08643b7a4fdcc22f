/-! the model: tokens -/
/-- the word's letters, five bits each, seven at most -/
def zwp (tx : Nat → Nat) (f : Nat) : Nat → Nat
  | 0 => 0
  | d + 1 => if d < 7 then zwp tx f d * 32 + (tx (f + d) - 96) else zwp tx f d
/-- the model's tape is tx, n of it are read -/
def zRm9 (w : zW) (tx : Nat → Nat) (n : Nat) : Prop := zMs w ∧ w.2.1 100 18 = nI n ∧ n ≤ 700 ∧ ∀ i, i < 700 → w.2.1 113 i = nI (tx i) ∧ tx i < 256
theorem zRm9.fm {w c : zW} {tx : Nat → Nat} {n : Nat} {l : List Nat} (h : zRm9 w tx n) (hf : zFM l w c) (hl : 18 ∉ l ∧ 13 ∉ l) : zRm9 c tx n := by
  obtain ⟨h1, h2, h3, h4⟩ := h
  exact ⟨h1.fm hf, (hf.at hl.1).trans h2, h3, fun i hi => ⟨by rw [show (113 : Nat) = 100 + 13 from rfl, hf.ar hl.2 (by decide)]; exact (h4 i hi).1, (h4 i hi).2⟩⟩
def zMk (w : zW) (tx : Nat → Nat) (t : zTkn) : Prop := w.2.1 100 19 = nI t.2.2.1 ∧ w.2.1 100 20 = nI t.1 ∧ w.2.1 100 21 = nI t.2.1 ∧ w.2.1 100 22 = nI (t.2.2.1 - t.2.1) ∧ (t.1 = 2 → w.2.1 100 23 = nI t.2.2.2) ∧ (t.1 = 1 → w.2.2.1 100 24 = lN (zwp tx t.2.1 (t.2.2.1 - t.2.1)))
/-- the byte at k, 0 behind the end -/
def zbt (tx : Nat → Nat) (n k : Nat) : Nat := if k < n then tx k else 0
set_option maxRecDepth 100000 in
theorem c_Mo_isLetter (Δ : zD) (w : zW) (x : Nat) (hx : x < 256) : zMd Δ 0 0 0 true yX9_isLetter mX9_isLetter [.int (nI x)] w (some (.int (if zlet x then 1 else 0))) w := by
  refine zMd.of mfX9_isLetter (Nat.le_of_ble_eq_true rfl) (fun QR hQ => ?_)
  refine zJ_iload_n dX9_isLetter_0 rfl ?_
  refine zJ_bipush (v := 97) dX9_isLetter_1 (by decide) ?_
  refine zJ_icmp_lt (tgt := 16) dX9_isLetter_3 (by decide) (fun h3 => ?_) (fun h3 => ?_)
  · have := (nI_ltI (b := 97) (by omega) (by decide)).mp h3
    rw [show zlet x = false by simp [zlet]; omega] at hQ
    refine zJ_iconst (v := 0) dX9_isLetter_16 (by decide) ?_
    exact zJ_zret dX9_isLetter_17 rfl rfl (by decide) (by decide) hQ
  · refine zJ_iload_n dX9_isLetter_6 rfl ?_
    refine zJ_bipush (v := 122) dX9_isLetter_7 (by decide) ?_
    refine zJ_icmp_gt (tgt := 16) dX9_isLetter_9 (by decide) (fun h9 => ?_) (fun h9 => ?_)
    · have := (nI_ltI (a := 122) (by decide) (by omega)).mp h9
      rw [show zlet x = false by simp [zlet]; omega] at hQ
      refine zJ_iconst (v := 0) dX9_isLetter_16 (by decide) ?_
      exact zJ_zret dX9_isLetter_17 rfl rfl (by decide) (by decide) hQ
    · have a1 : 97 ≤ x := (nI_leI (a := 97) (by decide) (by omega)).mp (Int32.not_lt.mp h3)
      have a2 : x ≤ 122 := (nI_leI (b := 122) (by omega) (by decide)).mp (Int32.not_lt.mp h9)
      rw [show zlet x = true by simp [zlet, a1, a2]] at hQ
      refine zJ_iconst (v := 1) dX9_isLetter_12 (by decide) ?_
      refine zJ_goto (tgt := 17) dX9_isLetter_13 (by decide) ?_
      exact zJ_zret dX9_isLetter_17 rfl rfl (by decide) (by decide) hQ
set_option maxRecDepth 100000 in
theorem c_Mo_isDigit (Δ : zD) (w : zW) (x : Nat) (hx : x < 256) : zMd Δ 0 0 0 true yX9_isDigit mX9_isDigit [.int (nI x)] w (some (.int (if zdig x then 1 else 0))) w := by
  refine zMd.of mfX9_isDigit (Nat.le_of_ble_eq_true rfl) (fun QR hQ => ?_)
  refine zJ_iload_n dX9_isDigit_0 rfl ?_
  refine zJ_bipush (v := 48) dX9_isDigit_1 (by decide) ?_
  refine zJ_icmp_lt (tgt := 16) dX9_isDigit_3 (by decide) (fun h3 => ?_) (fun h3 => ?_)
  · have := (nI_ltI (b := 48) (by omega) (by decide)).mp h3
    rw [show zdig x = false by simp [zdig]; omega] at hQ
    refine zJ_iconst (v := 0) dX9_isDigit_16 (by decide) ?_
    exact zJ_zret dX9_isDigit_17 rfl rfl (by decide) (by decide) hQ
  · refine zJ_iload_n dX9_isDigit_6 rfl ?_
    refine zJ_bipush (v := 57) dX9_isDigit_7 (by decide) ?_
    refine zJ_icmp_gt (tgt := 16) dX9_isDigit_9 (by decide) (fun h9 => ?_) (fun h9 => ?_)
    · have := (nI_ltI (a := 57) (by decide) (by omega)).mp h9
      rw [show zdig x = false by simp [zdig]; omega] at hQ
      refine zJ_iconst (v := 0) dX9_isDigit_16 (by decide) ?_
      exact zJ_zret dX9_isDigit_17 rfl rfl (by decide) (by decide) hQ
    · have a1 : 48 ≤ x := (nI_leI (a := 48) (by decide) (by omega)).mp (Int32.not_lt.mp h3)
      have a2 : x ≤ 57 := (nI_leI (b := 57) (by omega) (by decide)).mp (Int32.not_lt.mp h9)
      rw [show zdig x = true by simp [zdig, a1, a2]] at hQ
      refine zJ_iconst (v := 1) dX9_isDigit_12 (by decide) ?_
      refine zJ_goto (tgt := 17) dX9_isDigit_13 (by decide) ?_
      exact zJ_zret dX9_isDigit_17 rfl rfl (by decide) (by decide) hQ
set_option maxRecDepth 100000 in
theorem c_Mo_byteAt (Δ : zD) (w : zW) (tx : Nat → Nat) (n k : Nat) (hR : zRm9 w tx n) (hk : k ≤ 701) : zMd Δ 0 0 0 true yX9_byteAt mX9_byteAt [.ref 100, .int (nI k)] w (some (.int (nI (zbt tx n k)))) w := by
  refine zMd.of mfX9_byteAt (Nat.le_of_ble_eq_true rfl) (fun QR hQ => ?_)
  obtain ⟨hM, hln, hn7, htx⟩ := hR
  by_cases hlt : k < n
  · rw [show zbt tx n k = tx k by simp [zbt, hlt]] at hQ
    refine zJ_iload_n dX9_byteAt_0 rfl ?_
    refine zJ_aload_n dX9_byteAt_1 rfl ?_
    refine zJ_getiN dX9_byteAt_2 fX9_180 (by first | rfl | assumption | exact hM.at (by decide) (by decide)) rfl hln ?_
    refine zJ_icmp_ge (tgt := 17) dX9_byteAt_5 (by decide) (fun h9 => absurd h9 (fun h => absurd ((nI_leI (by omega) (by omega)).mp h) (by omega))) (fun h5 => ?_)
    refine zJ_aload_n dX9_byteAt_8 rfl ?_
    refine zJ_getr (j := 113) dX9_byteAt_9 fX9_32 (by first | rfl | assumption | exact hM.at (by decide) (by decide)) rfl (by first | rfl | assumption | exact hM.rf (by decide) rfl) ?_
    refine zJ_iload_n dX9_byteAt_12 rfl ?_
    refine zJ_ialdN (i := k) (v := (nI (tx k))) dX9_byteAt_13 (by first | rfl | assumption | exact hM.at (by decide) (by decide)) rfl (by omega) (by decide) (htx k (by omega)).1 ?_
    refine zJ_goto (tgt := 18) dX9_byteAt_14 (by decide) ?_
    exact zJ_iret dX9_byteAt_18 rfl (by decide) (by decide) hQ
  · rw [show zbt tx n k = 0 by simp [zbt, hlt]] at hQ
    refine zJ_iload_n dX9_byteAt_0 rfl ?_
    refine zJ_aload_n dX9_byteAt_1 rfl ?_
    refine zJ_getiN dX9_byteAt_2 fX9_180 (by first | rfl | assumption | exact hM.at (by decide) (by decide)) rfl hln ?_
    refine zJ_icmp_ge (tgt := 17) dX9_byteAt_5 (by decide) (fun h5 => ?_) (fun h9 => absurd ((nI_leI (by omega) (by omega)).mpr (by omega)) h9)
    refine zJ_iconst (v := 0) dX9_byteAt_17 (by decide) ?_
    exact zJ_iret dX9_byteAt_18 rfl (by decide) (by decide) hQ
set_option maxRecDepth 100000 in
theorem c_Mo_isGood (Δ : zD) (w : zW) (hM : zMs w) (k : Nat) (hk : k ≤ 5) (h15 : w.2.1 100 15 = nI k) : zMd Δ 0 0 0 true yX9_isGood mX9_isGood [.ref 100] w (some (.int (if k = 0 then 1 else 0))) w := by
  refine zMd.of mfX9_isGood (Nat.le_of_ble_eq_true rfl) (fun QR hQ => ?_)
  by_cases hk0 : k = 0
  · rw [if_pos hk0] at hQ
    refine zJ_aload_n dX9_isGood_0 rfl ?_
    refine zJ_getiN dX9_isGood_1 fX9_221 (by first | rfl | assumption | exact hM.at (by decide) (by decide)) rfl h15 ?_
    refine zJ_if_ne (tgt := 11) dX9_isGood_4 (by decide) (fun h9 => absurd h9 (fun h => h (by rw [hk0]; rfl))) (fun h4 => ?_)
    refine zJ_iconst (v := 1) dX9_isGood_7 (by decide) ?_
    refine zJ_goto (tgt := 12) dX9_isGood_8 (by decide) ?_
    exact zJ_zret dX9_isGood_12 rfl rfl (by decide) (by decide) hQ
  · rw [if_neg hk0] at hQ
    refine zJ_aload_n dX9_isGood_0 rfl ?_
    refine zJ_getiN dX9_isGood_1 fX9_221 (by first | rfl | assumption | exact hM.at (by decide) (by decide)) rfl h15 ?_
    refine zJ_if_ne (tgt := 11) dX9_isGood_4 (by decide) (fun h4 => ?_) (fun h9 => absurd h9 (fun h => hk0 ((nI_eq (b := 0) (by omega) (by decide)).mp h)))
    refine zJ_iconst (v := 0) dX9_isGood_11 (by decide) ?_
    exact zJ_zret dX9_isGood_12 rfl rfl (by decide) (by decide) hQ
set_option maxRecDepth 100000 in
theorem c_Mo_wrong (Δ : zD) (w : zW) (hM : zMs w) (y k : Nat) (hk : k ≤ 5) (h15 : w.2.1 100 15 = nI k) : zMd Δ 0 0 0 true yX9_wrong mX9_wrong [.ref 100, .int (nI y)] w none (if k = 0 then zsi (zsi w 100 15 (nI y)) 100 16 (w.2.1 100 21) else w) := by
  refine zMd.of mfX9_wrong (Nat.le_of_ble_eq_true rfl) (fun QR hQ => ?_)
  by_cases hk0 : k = 0
  · rw [if_pos hk0] at hQ
    refine zJ_aload_n dX9_wrong_0 rfl ?_
    refine zJ_getiN dX9_wrong_1 fX9_221 (by first | rfl | assumption | exact hM.at (by decide) (by decide)) rfl h15 ?_
    refine zJ_if_eq (tgt := 8) dX9_wrong_4 (by decide) (fun h4 => ?_) (fun h9 => absurd (by rw [hk0]; rfl) h9)
    refine zJ_aload_n dX9_wrong_8 rfl ?_
    refine zJ_iload_n dX9_wrong_9 rfl ?_
    refine zJ_puti dX9_wrong_10 fX9_221 (fun q h => by cases h; rfl) (by first | rfl | assumption | exact hM.at (by decide) (by decide)) rfl rfl rfl ?_
    refine zJ_aload_n dX9_wrong_13 rfl ?_
    refine zJ_aload_n dX9_wrong_14 rfl ?_
    refine zJ_geti dX9_wrong_15 fX9_190 (by first | rfl | assumption | exact hM.at (by decide) (by decide)) rfl ?_
    refine zJ_puti dX9_wrong_18 fX9_35 (fun q h => by cases h; rfl) (by first | rfl | assumption | exact hM.at (by decide) (by decide)) rfl rfl rfl ?_
    exact zJ_vret dX9_wrong_21 rfl (by decide) (by decide) hQ
  · rw [if_neg hk0] at hQ
    refine zJ_aload_n dX9_wrong_0 rfl ?_
    refine zJ_getiN dX9_wrong_1 fX9_221 (by first | rfl | assumption | exact hM.at (by decide) (by decide)) rfl h15 ?_
    refine zJ_if_eq (tgt := 8) dX9_wrong_4 (by decide) (fun h9 => absurd h9 (fun h => hk0 ((nI_eq (b := 0) (by omega) (by decide)).mp h))) (fun h4 => ?_)
    exact zJ_vret dX9_wrong_7 rfl (by decide) (by decide) hQ
