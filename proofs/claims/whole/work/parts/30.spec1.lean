/-! the town as numbers, its HANDS as keys -/
abbrev zTo : Type := (Nat → Nat) × (Nat → Nat) × (Nat → Nat) × (Nat → Nat)
/-- a HAND: who has it, the how-manieth, who has had it / whom it came from, how often each has sent it -/
abbrev zKy : Type := Nat × Nat × Nat × Nat
def zkn (T : zTo) (p : Nat) : Nat := zbits (fun q => decide (T.2.2.2 (p * 8 + q) ≠ 0)) 8
def zTi (w : zW) (t : Nat) (T : zTo) : Prop := zTn w t ∧ (∀ k, k < 14 → (k = 0 ∨ 5 ≤ k) → w.2.1 t k = nI (T.1 k)) ∧ (∀ p, p < 8 → w.2.1 (t + 1) p = nI (T.2.1 p)) ∧ (∀ p, p < 8 → w.2.1 (t + 2) p = nI (T.2.2.1 p)) ∧ (∀ p, p < 8 → w.2.1 (t + 3) p = nI (zkn T p)) ∧ (∀ i, i < 64 → w.2.1 (t + 4) i = nI (T.2.2.2 i))
def zTok (T : zTo) : Prop := T.1 0 ≤ 8 ∧ T.1 5 ≤ 9999 ∧ T.1 6 ≤ 99 ∧ (1 ≤ T.1 7 ∧ T.1 7 ≤ 12) ∧ T.1 8 ≤ 9999 ∧ T.1 9 ≤ 9999 ∧ T.1 10 ≤ 2 ∧ (1 ≤ T.1 11 ∧ T.1 11 ≤ 99) ∧ (T.1 12 < 8 ∧ (0 < T.1 0 → T.1 12 < T.1 0)) ∧ T.1 13 < 256 ∧ (∀ p, T.2.1 p ≤ 3 ∧ T.2.2.1 p ≤ 9999 ∧ (T.2.1 p = 2 → T.2.2.1 p ≤ 1000) ∧ (T.1 0 ≤ p → T.2.1 p = 0)) ∧ (∀ p q, p < 8 → q < 8 → T.2.2.2 (p * 8 + q) ≤ 99 ∧ (T.2.2.2 (p * 8 + q) ≠ 0 → p < T.1 0 ∧ q < T.1 0))
/-- it counts how often each has sent it -/
def zcs (T : zTo) : Bool := decide (T.1 10 ≠ 0) && decide (0 < T.1 9)
def zmay (T : zTo) (k : zKy) (y : Nat) : Bool := decide (k.2.1 < T.1 7) && decide (T.2.2.2 (k.1 * 8 + y) ≠ 0) && !(T.1 13).testBit y && (if T.1 10 = 0 then !k.2.2.1.testBit y else if T.1 10 = 1 then decide (k.2.2.1 ≠ y) else true)
def zfk (T : zTo) : zKy := (T.1 12, 1, (if T.1 10 = 0 then 2 ^ T.1 12 else if T.1 10 = 1 then 8 else 0), 0)
def zbk (T : zTo) (k : zKy) (y : Nat) : zKy := (y, k.2.1 + 1, (if T.1 10 = 0 then k.2.2.1 ||| 2 ^ y else if T.1 10 = 1 then k.1 else 0), (if zcs T then k.2.2.2 + 2 ^ (4 * k.1) else 0))
def zkok (T : zTo) (k : zKy) : Prop := k.1 < 8 ∧ (1 ≤ k.2.1 ∧ k.2.1 ≤ T.1 7) ∧ k.2.2.1 < 256 ∧ (T.1 10 = 1 → k.2.2.1 ≤ 8) ∧ (T.1 10 = 2 → k.2.2.1 = 0) ∧ k.2.2.2 ≤ (k.2.1 - 1) * 2 ^ 28
/-- a key as the class writes it -/
def zenc (T : zTo) (k : zKy) : Nat := 2 ^ 19 * k.2.2.2 + (2 ^ 15 * (if T.1 10 = 1 then (if k.2.2.1 = 8 then 0 else k.2.2.1 + 1) else 0) + (2 ^ 7 * (if T.1 10 = 0 then k.2.2.1 else 0) + (2 ^ 3 * k.2.1 + k.1)))
theorem zkok.fk {T : zTo} (hT : zTok T) : zkok T (zfk T) := by
  obtain ⟨-, -, -, h7, -, -, -, -, h12, -⟩ := hT
  refine ⟨h12.1, ⟨Nat.le_refl _, h7.1⟩, ?_, ?_, ?_, Nat.zero_le _⟩ <;> simp only [zfk]
  · have : 2 ^ T.1 12 ≤ 2 ^ 7 := Nat.pow_le_pow_right (by decide) (by omega)
    split
    · omega
    · split <;> omega
  · intro h; simp [h]
  · intro h; simp [h]
theorem zkok.bk {T : zTo} {k : zKy} {y : Nat} (hk : zkok T k) (hy : y < 8) (hm : zmay T k y = true) : zkok T (zbk T k y) := by
  obtain ⟨h1, h2, h3, h4, h5, h6⟩ := hk
  have h7 : k.2.1 < T.1 7 := by
    simp only [zmay, Bool.and_eq_true, decide_eq_true_eq] at hm
    exact hm.1.1.1
  refine ⟨hy, ⟨by simp only [zbk]; omega, by simp only [zbk]; omega⟩, ?_, ?_, ?_, ?_⟩ <;> simp only [zbk]
  · have : 2 ^ y < 2 ^ 8 := Nat.pow_lt_pow_right (by decide) hy
    split
    · exact Nat.or_lt_two_pow (n := 8) h3 this
    · split <;> omega
  · intro h; simp only [h, if_true]; rw [if_neg (by decide)]; omega
  · intro h; simp [h]
  · have h8 : 2 ^ (4 * k.1) ≤ 2 ^ 28 := Nat.pow_le_pow_right (by decide) (by omega)
    have e : k.2.1 + 1 - 1 = (k.2.1 - 1) + 1 := by omega
    rw [e, Nat.add_mul, Nat.one_mul]
    split
    · exact Nat.add_le_add h6 h8
    · exact Nat.zero_le _
theorem zbits_tb (f : Nat → Bool) : ∀ n j, (zbits f n).testBit j = (decide (j < n) && f j)
  | 0, j => by simp [zbits]
  | n + 1, j => by
    have ih := zbits_tb f n j
    have hl := zbits_lt f n
    simp only [zbits]
    by_cases hf : f n = true
    · have e := Nat.two_pow_add_eq_or_of_lt hl 1
      rw [Nat.mul_one] at e
      rw [if_pos hf, Nat.add_comm, e, Nat.testBit_or, Nat.testBit_two_pow, ih]
      by_cases hj : j = n
      · subst hj; simp [hf]
      · have h2 : (j < n + 1) = (j < n) := by simp only [eq_iff_iff]; omega
        have h3 : ¬ n = j := fun h => hj h.symm
        simp [h2, h3]
    · rw [if_neg hf, Nat.add_zero, ih]
      by_cases hj : j = n
      · subst hj; simp [hf]
      · have : (j < n + 1) = (j < n) := by simp only [eq_iff_iff]; omega
        simp [this]
theorem zenc_lt {T : zTo} {k : zKy} (hT : zTok T) (hk : zkok T k) : zenc T k < 2 ^ 52 := by
  obtain ⟨h1, h2, h3, h4, h5, h6⟩ := hk
  obtain ⟨-, -, -, h7, -⟩ := hT
  have h8 : k.2.2.2 ≤ 11 * 2 ^ 28 := Nat.le_trans h6 (Nat.mul_le_mul_right _ (by omega))
  simp only [zenc]
  split <;> split <;> (try split) <;> omega
