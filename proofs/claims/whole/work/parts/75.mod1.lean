/-! the model: tokens -/
theorem zMs.at {w : zW} {a : Nat} (h : zMs w) (h1 : 100 ≤ a) (h2 : a < 188) : w.1 a = zSM (a - 100) := by
  have := h.1 (a - 100) (by omega)
  rwa [show 100 + (a - 100) = a by omega] at this
theorem zMs.rf {w : zW} {k : Nat} (h : zMs w) (h1 : 0 < k) (h2 : (zSM k).isSome = true) : w.2.2.2 100 k = some (100 + k) := h.2 k h1 h2
theorem zMs.fr {w c : zW} (h : zMs w) (h1 : c.1 = w.1) (h2 : c.2.2.2 = w.2.2.2) : zMs c := by
  unfold zMs at *; rw [h1, h2]; exact h
/-- the word's letters, five bits each, seven at most -/
def zwp (tx : Nat → Nat) (f : Nat) : Nat → Nat
  | 0 => 0
  | d + 1 => if d < 7 then zwp tx f d * 32 + (tx (f + d) - 96) else zwp tx f d
def zKm (w c : zW) : Prop := c.1 = w.1 ∧ c.2.2.2 = w.2.2.2 ∧ (∀ a j, (a ≠ 100 ∨ j < 19 ∨ 23 < j) → c.2.1 a j = w.2.1 a j) ∧ (∀ a j, (a ≠ 100 ∨ j ≠ 24) → c.2.2.1 a j = w.2.2.1 a j)
theorem zKm.rf (w : zW) : zKm w w := ⟨rfl, rfl, fun _ _ _ => rfl, fun _ _ _ => rfl⟩
theorem zKm.tr {w c d : zW} (h1 : zKm w c) (h2 : zKm c d) : zKm w d := ⟨h2.1.trans h1.1, h2.2.1.trans h1.2.1, fun a j h => (h2.2.2.1 a j h).trans (h1.2.2.1 a j h), fun a j h => (h2.2.2.2 a j h).trans (h1.2.2.2 a j h)⟩
theorem zKm.i {w : zW} {j : Nat} {x : Int32} (h : 19 ≤ j ∧ j ≤ 23) : zKm w (zsi w 100 j x) := ⟨rfl, rfl, fun a b h2 => by
  have h3 : ¬ (a = 100 ∧ b = j) := by omega
  simp [zsi, h3], fun _ _ _ => rfl⟩
theorem zKm.l {w : zW} {x : Int64} : zKm w (zsl w 100 24 x) := ⟨rfl, rfl, fun _ _ _ => rfl, fun a b h2 => by
  have h3 : ¬ (a = 100 ∧ b = 24) := by omega
  simp [zsl, h3]⟩
/-- the model's tape is tx, n of it are read -/
def zRm9 (w : zW) (tx : Nat → Nat) (n : Nat) : Prop := zMs w ∧ w.2.1 100 18 = nI n ∧ n ≤ 700 ∧ ∀ i, i < 700 → w.2.1 113 i = nI (tx i) ∧ tx i < 256
theorem zRm9.fk {w c : zW} {tx : Nat → Nat} {n : Nat} (h : zRm9 w tx n) (hf : zKm w c) : zRm9 c tx n := by
  obtain ⟨h1, h2, h3, h4⟩ := h
  exact ⟨h1.fr hf.1 hf.2.1, (hf.2.2.1 100 18 (by omega)).trans h2, h3, fun i hi => ⟨(hf.2.2.1 113 i (by omega)).trans (h4 i hi).1, (h4 i hi).2⟩⟩
def zMk (w : zW) (tx : Nat → Nat) (t : zTkn) : Prop := w.2.1 100 19 = nI t.2.2.1 ∧ w.2.1 100 20 = nI t.1 ∧ w.2.1 100 21 = nI t.2.1 ∧ w.2.1 100 22 = nI (t.2.2.1 - t.2.1) ∧ (t.1 = 2 → w.2.1 100 23 = nI t.2.2.2) ∧ (t.1 = 1 → w.2.2.1 100 24 = lN (zwp tx t.2.1 (t.2.2.1 - t.2.1)))
/-- the byte at k, 0 behind the end -/
def zbt (tx : Nat → Nat) (n k : Nat) : Nat := if k < n then tx k else 0
set_option maxRecDepth 100000 in
theorem c_Mo_isLetter (Δ : zD) (w : zW) (x : Nat) (hx : x < 256) : zMd Δ 0 0 0 true yX9_isLetter mX9_isLetter [.int (nI x)] w (some (.int (if zlet x then 1 else 0))) w := by
  refine zMd.of mfX9_isLetter (Nat.le_of_ble_eq_true rfl) (fun QR hQ => ?_)
  refine zJ_iload_n dX9_isLetter_0 rfl ?_
  refine zJ_bipush (v := 97) dX9_isLetter_1 (by decide) ?_
  refine zJ_icmp_lt (tgt := 16) dX9_isLetter_3 (by decide) (fun h3 => ?_) (fun h3 => ?_)
  · have := (nI_ltI (b := 97) (by omega) (by decide)).mp h3
    rw [show zlet x = false by simp [zlet]; omega] at hQ
    refine zJ_iconst (v := 0) dX9_isLetter_16 (by decide) ?_
    exact zJ_zret dX9_isLetter_17 rfl rfl (by decide) (by decide) hQ
  · refine zJ_iload_n dX9_isLetter_6 rfl ?_
    refine zJ_bipush (v := 122) dX9_isLetter_7 (by decide) ?_
    refine zJ_icmp_gt (tgt := 16) dX9_isLetter_9 (by decide) (fun h9 => ?_) (fun h9 => ?_)
    · have := (nI_ltI (a := 122) (by decide) (by omega)).mp h9
      rw [show zlet x = false by simp [zlet]; omega] at hQ
      refine zJ_iconst (v := 0) dX9_isLetter_16 (by decide) ?_
      exact zJ_zret dX9_isLetter_17 rfl rfl (by decide) (by decide) hQ
    · have a1 : 97 ≤ x := (nI_leI (a := 97) (by decide) (by omega)).mp (Int32.not_lt.mp h3)
      have a2 : x ≤ 122 := (nI_leI (b := 122) (by omega) (by decide)).mp (Int32.not_lt.mp h9)
      rw [show zlet x = true by simp [zlet, a1, a2]] at hQ
      refine zJ_iconst (v := 1) dX9_isLetter_12 (by decide) ?_
      refine zJ_goto (tgt := 17) dX9_isLetter_13 (by decide) ?_
      exact zJ_zret dX9_isLetter_17 rfl rfl (by decide) (by decide) hQ
set_option maxRecDepth 100000 in
theorem c_Mo_isDigit (Δ : zD) (w : zW) (x : Nat) (hx : x < 256) : zMd Δ 0 0 0 true yX9_isDigit mX9_isDigit [.int (nI x)] w (some (.int (if zdig x then 1 else 0))) w := by
  refine zMd.of mfX9_isDigit (Nat.le_of_ble_eq_true rfl) (fun QR hQ => ?_)
  refine zJ_iload_n dX9_isDigit_0 rfl ?_
  refine zJ_bipush (v := 48) dX9_isDigit_1 (by decide) ?_
  refine zJ_icmp_lt (tgt := 16) dX9_isDigit_3 (by decide) (fun h3 => ?_) (fun h3 => ?_)
  · have := (nI_ltI (b := 48) (by omega) (by decide)).mp h3
    rw [show zdig x = false by simp [zdig]; omega] at hQ
    refine zJ_iconst (v := 0) dX9_isDigit_16 (by decide) ?_
    exact zJ_zret dX9_isDigit_17 rfl rfl (by decide) (by decide) hQ
  · refine zJ_iload_n dX9_isDigit_6 rfl ?_
    refine zJ_bipush (v := 57) dX9_isDigit_7 (by decide) ?_
    refine zJ_icmp_gt (tgt := 16) dX9_isDigit_9 (by decide) (fun h9 => ?_) (fun h9 => ?_)
    · have := (nI_ltI (a := 57) (by decide) (by omega)).mp h9
      rw [show zdig x = false by simp [zdig]; omega] at hQ
      refine zJ_iconst (v := 0) dX9_isDigit_16 (by decide) ?_
      exact zJ_zret dX9_isDigit_17 rfl rfl (by decide) (by decide) hQ
    · have a1 : 48 ≤ x := (nI_leI (a := 48) (by decide) (by omega)).mp (Int32.not_lt.mp h3)
      have a2 : x ≤ 57 := (nI_leI (b := 57) (by omega) (by decide)).mp (Int32.not_lt.mp h9)
      rw [show zdig x = true by simp [zdig, a1, a2]] at hQ
      refine zJ_iconst (v := 1) dX9_isDigit_12 (by decide) ?_
      refine zJ_goto (tgt := 17) dX9_isDigit_13 (by decide) ?_
      exact zJ_zret dX9_isDigit_17 rfl rfl (by decide) (by decide) hQ
set_option maxRecDepth 100000 in
theorem c_Mo_byteAt (Δ : zD) (w : zW) (tx : Nat → Nat) (n k : Nat) (hR : zRm9 w tx n) (hk : k ≤ 701) : zMd Δ 0 0 0 true yX9_byteAt mX9_byteAt [.ref 100, .int (nI k)] w (some (.int (nI (zbt tx n k)))) w := by
  refine zMd.of mfX9_byteAt (Nat.le_of_ble_eq_true rfl) (fun QR hQ => ?_)
  obtain ⟨hM, hln, hn7, htx⟩ := hR
  refine zJ_iload_n dX9_byteAt_0 rfl ?_
  refine zJ_aload_n dX9_byteAt_1 rfl ?_
  refine zJ_geti dX9_byteAt_2 fX9_180 (by first | rfl | assumption | exact hM.at (by decide) (by decide)) rfl ?_
  rw [hln]
  refine zJ_icmp_ge (tgt := 17) dX9_byteAt_5 (by decide) (fun h5 => ?_) (fun h5 => ?_)
  · have hge : ¬ k < n := Nat.not_lt.mpr ((nI_leI (by omega) (by omega)).mp h5)
    rw [show zbt tx n k = 0 by simp [zbt, hge]] at hQ
    refine zJ_iconst (v := 0) dX9_byteAt_17 (by decide) ?_
    exact zJ_iret dX9_byteAt_18 rfl (by decide) (by decide) hQ
  · have hlt : k < n := Nat.lt_of_not_le fun h => h5 ((nI_leI (by omega) (by omega)).mpr h)
    rw [show zbt tx n k = tx k by simp [zbt, hlt]] at hQ
    refine zJ_aload_n dX9_byteAt_8 rfl ?_
    refine zJ_getr (j := 113) dX9_byteAt_9 fX9_32 (by first | rfl | assumption | exact hM.at (by decide) (by decide)) rfl (by first | rfl | assumption | exact hM.rf (by decide) rfl) ?_
    refine zJ_iload_n dX9_byteAt_12 rfl ?_
    refine zJ_iald dX9_byteAt_13 (by first | rfl | assumption | exact hM.at (by decide) (by decide)) (vp_in_nI (by omega) (by omega)) ?_
    rw [nI_clamp (show k < 2 ^ 31 by omega), (htx k (by omega)).1]
    refine zJ_goto (tgt := 18) dX9_byteAt_14 (by decide) ?_
    exact zJ_iret dX9_byteAt_18 rfl (by decide) (by decide) hQ
theorem zbt_lt {tx : Nat → Nat} {n k : Nat} (h : k < n → tx k < 256) : zbt tx n k < 256 := by
  simp only [zbt]; split
  · exact h (by assumption)
  · decide
theorem zwp_lt {tx : Nat → Nat} {f : Nat} : ∀ d, (∀ i, i < d → zlet (tx (f + i)) = true) → zwp tx f d < 32 ^ (min d 7)
  | 0, _ => by simp [zwp]
  | d + 1, h => by
    have ih := zwp_lt (tx := tx) (f := f) d (fun i hi => h i (by omega))
    have h1 := h d (by omega)
    simp only [zlet, Bool.and_eq_true, decide_eq_true_eq] at h1
    simp only [zwp]
    split
    · rename_i h4
      rw [Nat.min_eq_left (by omega)] at ih ⊢
      rw [Nat.pow_succ]; omega
    · rename_i h4
      rw [Nat.min_eq_right (by omega)] at ih ⊢
      exact ih
theorem lN_or5 {a j : Nat} (hj : j < 32) : lN (a * 2 ^ 5) ||| lN j = lN (a * 32 + j) := by
  rw [Int64.or_comm, show a * 2 ^ 5 = 2 ^ 5 * a by omega, lN_orS (k := 5) a hj, show 2 ^ 5 * a + j = a * 32 + j by omega]
set_option maxRecDepth 100000 in
theorem c_Mo_steps (Δ : zD) (w : zW) (tx : Nat → Nat) (n a : Nat) (hR : zRm9 w tx n) (ha : a ≤ n) (hat : w.2.1 100 19 = nI a) : zMp Δ 1 yX9_steps mX9_steps [.ref 100] w (fun r c => r = none ∧ zKm w c ∧ zMk c tx (ztk tx n a)) := by
  refine zMp.of mfX9_steps (Nat.le_of_ble_eq_true rfl) (fun QR hQ => ?_)
  have hn7 := hR.2.2.1
  have hrn := zrun_le (p := fun i => zblk (tx i)) ha
  generalize hfd : zrun (fun i => zblk (tx i)) n a = f at hrn
  have htk : ztk tx n a = ztk0 tx n f := by simp only [ztk, hfd]
  rw [htk] at hQ
  have LE : ∀ (w1 : zW) (t : zTkn), zKm w w1 → t = ztk0 tx n f → w1.2.1 100 19 = nI t.2.2.1 → w1.2.1 100 20 = nI t.1 → w1.2.1 100 21 = nI t.2.1 → t.2.1 ≤ t.2.2.1 → (t.1 = 2 → w1.2.1 100 23 = nI t.2.2.2) → (t.1 = 1 → w1.2.2.1 100 24 = lN (zwp tx t.2.1 (t.2.2.1 - t.2.1))) → zJ Δ mX9_steps (zRm 1 0 0) true w.1 QR (fun _ _ => False) 0 0 278 [(1, .int (nI (zbt tx n f))), (0, .ref 100)] [] w1 := by
    intro w1 t hf ht f19 f20 f21 hle f23 f24
    have hR1 := hR.fk hf
    have hM := hR1.1
    have hln := hR1.2.1
    have htx := hR1.2.2.2
    rw [← ht] at hQ
    refine zJ_aload_n dX9_steps_278 rfl ?_
    refine zJ_aload_n dX9_steps_279 rfl ?_
    refine zJ_geti dX9_steps_280 fX9_183 (by first | rfl | assumption | exact hM.at (by decide) (by decide)) rfl ?_
    rw [f19]
    refine zJ_aload_n dX9_steps_283 rfl ?_
    refine zJ_geti dX9_steps_284 fX9_190 (by first | rfl | assumption | exact hM.at (by decide) (by decide)) rfl ?_
    rw [f21]
    refine zJ_isub dX9_steps_287 ?_
    rw [na_sub hle]
    refine zJ_puti dX9_steps_288 fX9_210 (fun q h => by cases h; rfl) (by first | rfl | assumption | exact hM.at (by decide) (by decide)) rfl rfl rfl ?_
    exact zJ_vret dX9_steps_291 rfl (by decide) (by decide) (hQ _ _ ⟨rfl, hf.tr (zKm.i (by decide)), by simp [zsi, f19], by simp [zsi, f20], by simp [zsi, f21], by simp [zsi], fun h => by simp [zsi, f23 h], fun h => by simp [zsi, f24 h]⟩)
