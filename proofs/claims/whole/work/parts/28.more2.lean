/-! compare and branch of longs; the shape of all cells; numbers -/
theorem lgc (x y : Int64) : (x < y ∧ lg_cmp x y = -1) ∨ (x = y ∧ lg_cmp x y = 0) ∨ (y < x ∧ lg_cmp x y = 1) := by
  unfold lg_cmp
  by_cases h1 : x > y
  · exact Or.inr (Or.inr ⟨h1, by rw [if_pos h1]⟩)
  · by_cases h2 : x = y
    · exact Or.inr (Or.inl ⟨h2, by rw [if_neg h1, if_pos h2]⟩)
    · refine Or.inl ⟨?_, by rw [if_neg h1, if_neg h2]⟩
      rw [fa_lt64]
      have h3 : ¬ y.toInt < x.toInt := fun h => h1 ((fa_lt64 y x).mpr h)
      have h4 : ¬ x.toInt = y.toInt := fun h => h2 ((fa_eq64 x y).mpr h)
      omega
theorem lgc_eq (x y : Int64) : (lg_cmp x y = 0) ↔ (x = y) := lg_cmp_eq x y
theorem lgc_ne (x y : Int64) : (¬ lg_cmp x y = 0) ↔ (¬ x = y) := not_congr (lg_cmp_eq x y)
theorem lgc_lt (x y : Int64) : (lg_cmp x y < 0) ↔ (x < y) := by
  have e1 : (-1 : Int32).toInt = -1 := by decide
  have e2 : (0 : Int32).toInt = 0 := by decide
  have e3 : (1 : Int32).toInt = 1 := by decide
  rcases lgc x y with ⟨h, e⟩ | ⟨h, e⟩ | ⟨h, e⟩ <;> rw [e] <;> simp only [fa_lt64, fa_le64, fa_eq64] at h <;> simp only [fa_lt64, fa_le64, fa_eq64, fa_lt, fa_le, fa_eq, e1, e2, e3] <;> omega
theorem lgc_ge (x y : Int64) : (0 ≤ lg_cmp x y) ↔ (y ≤ x) := by
  have e1 : (-1 : Int32).toInt = -1 := by decide
  have e2 : (0 : Int32).toInt = 0 := by decide
  have e3 : (1 : Int32).toInt = 1 := by decide
  rcases lgc x y with ⟨h, e⟩ | ⟨h, e⟩ | ⟨h, e⟩ <;> rw [e] <;> simp only [fa_lt64, fa_le64, fa_eq64] at h <;> simp only [fa_lt64, fa_le64, fa_eq64, fa_lt, fa_le, fa_eq, e1, e2, e3] <;> omega
theorem lgc_gt (x y : Int64) : (0 < lg_cmp x y) ↔ (y < x) := by
  have e1 : (-1 : Int32).toInt = -1 := by decide
  have e2 : (0 : Int32).toInt = 0 := by decide
  have e3 : (1 : Int32).toInt = 1 := by decide
  rcases lgc x y with ⟨h, e⟩ | ⟨h, e⟩ | ⟨h, e⟩ <;> rw [e] <;> simp only [fa_lt64, fa_le64, fa_eq64] at h <;> simp only [fa_lt64, fa_le64, fa_eq64, fa_lt, fa_le, fa_eq, e1, e2, e3] <;> omega
theorem lgc_le (x y : Int64) : (lg_cmp x y ≤ 0) ↔ (x ≤ y) := by
  have e1 : (-1 : Int32).toInt = -1 := by decide
  have e2 : (0 : Int32).toInt = 0 := by decide
  have e3 : (1 : Int32).toInt = 1 := by decide
  rcases lgc x y with ⟨h, e⟩ | ⟨h, e⟩ | ⟨h, e⟩ <;> rw [e] <;> simp only [fa_lt64, fa_le64, fa_eq64] at h <;> simp only [fa_lt64, fa_le64, fa_eq64, fa_lt, fa_le, fa_eq, e1, e2, e3] <;> omega
theorem zJ_lc_eq {Δ : zD} {M : zMI} {R : Room} {fx : Bool} {sh0 : zSh} {QR : Option Value → zW → Prop} {QX : String → zW → Prop} {k n pc : Nat} {ls : List (Nat × Value)} {st : List Value} {w : zW} {x y : Int64} {off : Int} {tgt : Nat} (hd1 : decode M.2.1 pc = .ok (.lcmp, 1)) (hd : decode M.2.1 (pc + 1) = .ok (.ifCond .eq off, 3)) (ht : ((pc + 1 : Nat) : Int) + off = (tgt : Int)) (kt : x = y → zJ Δ M R fx sh0 QR QX k n tgt ls st w) (kf : ¬ (x = y) → zJ Δ M R fx sh0 QR QX k n (pc + 1 + 3) ls st w) : zJ Δ M R fx sh0 QR QX k n pc ls (.long y :: .long x :: st) w := zJ_lcmp hd1 (zJ_if_eq hd ht (fun h => kt ((lgc_eq x y).mp h)) (fun h => kf (fun h2 => h ((lgc_eq x y).mpr h2))))
theorem zJ_lc_ne {Δ : zD} {M : zMI} {R : Room} {fx : Bool} {sh0 : zSh} {QR : Option Value → zW → Prop} {QX : String → zW → Prop} {k n pc : Nat} {ls : List (Nat × Value)} {st : List Value} {w : zW} {x y : Int64} {off : Int} {tgt : Nat} (hd1 : decode M.2.1 pc = .ok (.lcmp, 1)) (hd : decode M.2.1 (pc + 1) = .ok (.ifCond .ne off, 3)) (ht : ((pc + 1 : Nat) : Int) + off = (tgt : Int)) (kt : ¬ x = y → zJ Δ M R fx sh0 QR QX k n tgt ls st w) (kf : x = y → zJ Δ M R fx sh0 QR QX k n (pc + 1 + 3) ls st w) : zJ Δ M R fx sh0 QR QX k n pc ls (.long y :: .long x :: st) w := zJ_lcmp hd1 (zJ_if_ne hd ht (fun h => kt ((lgc_ne x y).mp h)) (fun h => kf ((lg_cmp_eq x y).mp h)))
theorem zJ_lc_lt {Δ : zD} {M : zMI} {R : Room} {fx : Bool} {sh0 : zSh} {QR : Option Value → zW → Prop} {QX : String → zW → Prop} {k n pc : Nat} {ls : List (Nat × Value)} {st : List Value} {w : zW} {x y : Int64} {off : Int} {tgt : Nat} (hd1 : decode M.2.1 pc = .ok (.lcmp, 1)) (hd : decode M.2.1 (pc + 1) = .ok (.ifCond .lt off, 3)) (ht : ((pc + 1 : Nat) : Int) + off = (tgt : Int)) (kt : x < y → zJ Δ M R fx sh0 QR QX k n tgt ls st w) (kf : ¬ (x < y) → zJ Δ M R fx sh0 QR QX k n (pc + 1 + 3) ls st w) : zJ Δ M R fx sh0 QR QX k n pc ls (.long y :: .long x :: st) w := zJ_lcmp hd1 (zJ_if_lt hd ht (fun h => kt ((lgc_lt x y).mp h)) (fun h => kf (fun h2 => h ((lgc_lt x y).mpr h2))))
theorem zJ_lc_ge {Δ : zD} {M : zMI} {R : Room} {fx : Bool} {sh0 : zSh} {QR : Option Value → zW → Prop} {QX : String → zW → Prop} {k n pc : Nat} {ls : List (Nat × Value)} {st : List Value} {w : zW} {x y : Int64} {off : Int} {tgt : Nat} (hd1 : decode M.2.1 pc = .ok (.lcmp, 1)) (hd : decode M.2.1 (pc + 1) = .ok (.ifCond .ge off, 3)) (ht : ((pc + 1 : Nat) : Int) + off = (tgt : Int)) (kt : y ≤ x → zJ Δ M R fx sh0 QR QX k n tgt ls st w) (kf : ¬ (y ≤ x) → zJ Δ M R fx sh0 QR QX k n (pc + 1 + 3) ls st w) : zJ Δ M R fx sh0 QR QX k n pc ls (.long y :: .long x :: st) w := zJ_lcmp hd1 (zJ_if_ge hd ht (fun h => kt ((lgc_ge x y).mp h)) (fun h => kf (fun h2 => h ((lgc_ge x y).mpr h2))))
theorem zJ_lc_gt {Δ : zD} {M : zMI} {R : Room} {fx : Bool} {sh0 : zSh} {QR : Option Value → zW → Prop} {QX : String → zW → Prop} {k n pc : Nat} {ls : List (Nat × Value)} {st : List Value} {w : zW} {x y : Int64} {off : Int} {tgt : Nat} (hd1 : decode M.2.1 pc = .ok (.lcmp, 1)) (hd : decode M.2.1 (pc + 1) = .ok (.ifCond .gt off, 3)) (ht : ((pc + 1 : Nat) : Int) + off = (tgt : Int)) (kt : y < x → zJ Δ M R fx sh0 QR QX k n tgt ls st w) (kf : ¬ (y < x) → zJ Δ M R fx sh0 QR QX k n (pc + 1 + 3) ls st w) : zJ Δ M R fx sh0 QR QX k n pc ls (.long y :: .long x :: st) w := zJ_lcmp hd1 (zJ_if_gt hd ht (fun h => kt ((lgc_gt x y).mp h)) (fun h => kf (fun h2 => h ((lgc_gt x y).mpr h2))))
theorem zJ_lc_le {Δ : zD} {M : zMI} {R : Room} {fx : Bool} {sh0 : zSh} {QR : Option Value → zW → Prop} {QX : String → zW → Prop} {k n pc : Nat} {ls : List (Nat × Value)} {st : List Value} {w : zW} {x y : Int64} {off : Int} {tgt : Nat} (hd1 : decode M.2.1 pc = .ok (.lcmp, 1)) (hd : decode M.2.1 (pc + 1) = .ok (.ifCond .le off, 3)) (ht : ((pc + 1 : Nat) : Int) + off = (tgt : Int)) (kt : x ≤ y → zJ Δ M R fx sh0 QR QX k n tgt ls st w) (kf : ¬ (x ≤ y) → zJ Δ M R fx sh0 QR QX k n (pc + 1 + 3) ls st w) : zJ Δ M R fx sh0 QR QX k n pc ls (.long y :: .long x :: st) w := zJ_lcmp hd1 (zJ_if_le hd ht (fun h => kt ((lgc_le x y).mp h)) (fun h => kf (fun h2 => h ((lgc_le x y).mpr h2))))
theorem lN_div {a b : Nat} (ha : a < 2 ^ 63) (hb : b < 2 ^ 63) : lN a / lN b = lN (a / b) := by
  have h1 : a / b ≤ a := Nat.div_le_self a b
  apply Int64.toInt_inj.mp
  rw [Int64.toInt_div, pf_lI ha, pf_lI hb, pf_lI (by omega), ← Int.ofNat_tdiv]
  exact fb_bmodL (Int.le_trans (by decide) (Int.natCast_nonneg _)) (by omega)
theorem lN_leL {a b : Nat} (ha : a < 2 ^ 63) (hb : b < 2 ^ 63) : lN a ≤ lN b ↔ a ≤ b := by
  rw [fa_le64, pf_lI ha, pf_lI hb]; omega
theorem lN_ltL {a b : Nat} (ha : a < 2 ^ 63) (hb : b < 2 ^ 63) : lN a < lN b ↔ a < b := by
  rw [fa_lt64, pf_lI ha, pf_lI hb]; omega
theorem nI_div {a b : Nat} (ha : a < 2 ^ 31) (hb : b < 2 ^ 31) : nI a / nI b = nI (a / b) := by
  have h1 : a / b ≤ a := Nat.div_le_self a b
  apply Int32.toInt_inj.mp
  rw [Int32.toInt_div, nI_toInt ha, nI_toInt hb, nI_toInt (by omega), ← Int.ofNat_tdiv]
  exact fb_bmod (Int.le_trans (by decide) (Int.natCast_nonneg _)) (by omega)
theorem nI_rem {a b : Nat} (ha : a < 2 ^ 31) (hb : b < 2 ^ 31) : nI a - nI a / nI b * nI b = nI (a % b) := by
  rw [nI_div ha hb, na_mul, na_sub (Nat.div_mul_le_self a b)]
  congr 1
  have := Nat.div_add_mod a b
  rw [Nat.mul_comm] at this
  omega
theorem lN_rem {a b : Nat} (ha : a < 2 ^ 63) (hb : b < 2 ^ 63) : lN a - lN a / lN b * lN b = lN (a % b) := by
  rw [lN_div ha hb, lN_mul, lN_sub (Nat.div_mul_le_self a b)]
  congr 1
  have := Nat.div_add_mod a b
  rw [Nat.mul_comm] at this
  omega
theorem nI_shr {a k : Nat} (ha : a < 2 ^ 31) (hk : k < 32) : nI a >>> (nI k &&& 31) = nI (a / 2 ^ k) := by
  have e : nI k &&& 31 = nI k := by
    rw [show (31 : Int32) = nI (2 ^ 5 - 1) from rfl, fa_mask, Nat.mod_eq_of_lt (by omega)]
  apply Int32.toBitVec_inj.mp
  rw [e, Int32.toBitVec_shiftRight]
  have h1 : (nI a).toBitVec.msb = false := by
    rw [show (nI a).toBitVec = BitVec.ofNat 32 a from rfl, BitVec.msb_eq_false_iff_two_mul_lt, BitVec.toNat_ofNat]
    omega
  have h2 : ((nI k).toBitVec.smod 32).toNat = k := (by decide : ∀ k, k < 32 → ((nI k).toBitVec.smod 32).toNat = k) k hk
  rw [BitVec.sshiftRight_eq', BitVec.sshiftRight_eq_of_msb_false h1, h2]
  apply BitVec.eq_of_toNat_eq
  have h3 : a / 2 ^ k ≤ a := Nat.div_le_self _ _
  rw [BitVec.toNat_ushiftRight, Nat.shiftRight_eq_div_pow, show (nI a).toBitVec = BitVec.ofNat 32 a from rfl, show (nI (a / 2 ^ k)).toBitVec = BitVec.ofNat 32 (a / 2 ^ k) from rfl, BitVec.toNat_ofNat, BitVec.toNat_ofNat, Nat.mod_eq_of_lt (by omega), Nat.mod_eq_of_lt (by omega)]
theorem lN_shr {a k : Nat} (ha : a < 2 ^ 62) (hk : k < 64) : lN a >>> ((nI k).toInt64 &&& 63) = lN (a / 2 ^ k) := by
  rw [wb_c k hk]
  exact pf_shr (by rw [wb_tb, wb_sm k hk, BitVec.toNat_ofNat]; omega) ha
theorem nI_bit {a k : Nat} (ha : a < 2 ^ 31) (hk : k < 32) : nI a >>> (nI k &&& 31) &&& 1 = nI (a / 2 ^ k % 2) := by
  rw [nI_shr ha hk, show (1 : Int32) = nI (2 ^ 1 - 1) from rfl, fa_mask]
def zSCl : List (Option (Nat ⊕ (Bool × Nat))) := [some (.inl 8), some (.inr (false, 700)), some (.inr (false, 3)), some (.inl 2), some (.inl 5), some (.inr (false, 8)), some (.inr (false, 8)), some (.inr (false, 8)), some (.inr (false, 64)), some (.inl 5), some (.inr (false, 8)), some (.inr (false, 8)), some (.inr (false, 8)), some (.inr (false, 64)), some (.inl 5), some (.inr (false, 8)), some (.inr (false, 8)), some (.inr (false, 8)), some (.inr (false, 64)), some (.inl 1), some (.inl 5), some (.inr (false, 8)), some (.inr (false, 8)), some (.inr (false, 8)), some (.inr (false, 64)), some (.inl 6), some (.inr (true, 640)), some (.inr (false, 640)), some (.inr (false, 5120)), some (.inr (false, 1024)), some (.inr (true, 640)), some (.inr (true, 5120)), some (.inr (false, 640)), some (.inr (true, 640)), some (.inr (true, 640)), some (.inr (true, 96)), some (.inr (true, 8)), some (.inr (false, 8)), some (.inl 3), some (.inr (false, 20)), some (.inr (false, 400)), some (.inr (false, 20)), some (.inl 0), some (.inr (false, 32)), some (.inr (false, 32)), some (.inr (true, 80)), some (.inr (true, 4)), some (.inl 4), some (.inr (false, 30)), some (.inr (false, 30)), some (.inr (false, 8)), some (.inr (true, 8)), some (.inr (true, 31)), some (.inl 7), some (.inr (false, 100)), some (.inr (false, 100)), some (.inr (false, 8)), some (.inl 7), some (.inr (false, 100)), some (.inr (false, 100)), some (.inr (false, 8))]
def zRCl : List (List (Option Nat)) := [[some 1, none, none, some 2, some 3, some 9, some 14, some 19, none, some 38, some 42, some 47, some 51, some 52, none, none, some 53, some 57], [], [], [some 1, some 4], [none, some 5, some 6, some 7, some 8], [], [], [], [], [none, some 10, some 11, some 12, some 13], [], [], [], [], [none, some 15, some 16, some 17, some 18], [], [], [], [], [some 20, some 25, some 30, some 31, some 32, some 33, some 34, some 35, some 36, some 37], [none, some 21, some 22, some 23, some 24], [], [], [], [], [none, some 26, some 27, some 28, some 29], [], [], [], [], [], [], [], [], [], [], [], [], [some 39, none, some 40, some 41], [], [], [], [some 43, some 44, none, some 45, some 46], [], [], [], [], [some 48, some 49, none, none, none, none, none, some 50], [], [], [], [], [], [none, none, none, none, some 54, some 55, some 56], [], [], [], [none, none, none, none, some 58, some 59, some 60], [], [], []]
def zSC (i : Nat) : Option (Nat ⊕ (Bool × Nat)) := (zSCl[i]?).getD none
def zRC (i k : Nat) : Option Nat := (((zRCl[i]?).getD [])[k]?).getD none
/-- the class's cells are all there (the large Play aside) -/
def zCs (w : zW) : Prop := (∀ i, i < 61 → w.1 i = zSC i) ∧ (∀ i k, (zRC i k).isSome = true → w.2.2.2 i k = zRC i k)
def zSMl : List (Option (Nat ⊕ (Bool × Nat))) := [some (.inl 9), none, none, none, none, none, none, none, none, none, some (.inr (false, 8)), some (.inr (false, 8)), some (.inr (false, 64)), some (.inr (false, 700)), none, none, none, some (.inr (false, 3)), none, none, none, none, none, none, none, none, none, none, none, none, none, none, none, none, none, some (.inr (false, 8)), some (.inr (false, 8)), some (.inr (false, 64)), none, some (.inr (false, 20000)), some (.inr (false, 20000)), some (.inr (false, 20000)), some (.inr (false, 20000)), some (.inr (false, 160000)), some (.inr (false, 65536)), none, none, none, some (.inr (false, 8)), some (.inr (false, 8)), some (.inr (true, 160000)), some (.inr (true, 20000)), some (.inr (false, 20000)), some (.inr (true, 20000)), some (.inr (true, 96)), none, none, some (.inr (false, 20)), some (.inr (false, 400)), some (.inr (false, 20)), some (.inr (false, 20)), none, some (.inr (false, 32)), some (.inr (false, 32)), some (.inr (true, 4)), some (.inr (true, 80)), none, some (.inr (false, 12)), some (.inr (true, 20000)), some (.inr (true, 20000)), some (.inr (true, 8)), none, some (.inr (false, 30)), some (.inr (false, 30)), some (.inr (false, 8)), some (.inr (true, 32)), none, none, some (.inr (false, 3)), some (.inr (false, 8)), some (.inr (false, 100)), some (.inr (false, 100)), some (.inr (false, 100)), some (.inr (false, 3)), some (.inr (false, 8)), some (.inr (false, 100)), some (.inr (false, 100)), some (.inr (false, 100))]
def zSM (i : Nat) : Option (Nat ⊕ (Bool × Nat)) := (zSMl[i]?).getD none
/-- the model's cells: 100 itself, 100 + k the row of its field k -/
def zMs (w : zW) : Prop := (∀ i, i < 88 → w.1 (100 + i) = zSM i) ∧ (∀ k, 0 < k → (zSM k).isSome = true → w.2.2.2 100 k = some (100 + k))
