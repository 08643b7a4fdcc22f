/-! what is reckoned from the last hand -/
def lZ (z : Int) : Int64 := Int64.ofInt z
theorem lZ_add (a b : Int) : lZ a + lZ b = lZ (a + b) := by simp [lZ, Int64.ofInt_add]
theorem lZ_mul (a b : Int) : lZ a * lZ b = lZ (a * b) := by simp [lZ, Int64.ofInt_mul]
theorem lZ_sub (a b : Int) : lZ a - lZ b = lZ (a - b) := by simp [lZ, Int64.ofInt_sub]
theorem lZ_n (n : Nat) : lN n = lZ (n : Int) := rfl
theorem lZ_toInt {z : Int} (h1 : -9223372036854775808 ≤ z) (h2 : z < 9223372036854775808) : (lZ z).toInt = z := by
  rw [lZ, Int64.toInt_ofInt]; exact fb_bmodL h1 h2
theorem lZ_le {a b : Int} (h1 : -9223372036854775808 ≤ a) (h2 : a < 9223372036854775808) (h3 : -9223372036854775808 ≤ b) (h4 : b < 9223372036854775808) : lZ a ≤ lZ b ↔ a ≤ b := by
  rw [fa_le64, lZ_toInt h1 h2, lZ_toInt h3 h4]
theorem lZ_lt {a b : Int} (h1 : -9223372036854775808 ≤ a) (h2 : a < 9223372036854775808) (h3 : -9223372036854775808 ≤ b) (h4 : b < 9223372036854775808) : lZ a < lZ b ↔ a < b := by
  rw [fa_lt64, lZ_toInt h1 h2, lZ_toInt h3 h4]
theorem tdiv_rng {a b : Int} (h1 : -4611686018427387904 ≤ a) (h2 : a < 4611686018427387904) : -4611686018427387904 ≤ a.tdiv b ∧ a.tdiv b ≤ 4611686018427387904 := by
  have h := Int.natAbs_tdiv_le_natAbs a b
  omega
theorem lZ_div {a b : Int} (h1 : -4611686018427387904 ≤ a) (h2 : a < 4611686018427387904) (h3 : -4611686018427387904 ≤ b) (h4 : b < 4611686018427387904) : lZ a / lZ b = lZ (a.tdiv b) := by
  have h5 := tdiv_rng (b := b) h1 h2
  apply Int64.toInt_inj.mp
  rw [Int64.toInt_div, lZ_toInt (by omega) (by omega), lZ_toInt (by omega) (by omega), lZ_toInt (by omega) (by omega)]
  exact fb_bmodL (by omega) (by omega)
theorem i64_xor (x y : Int64) : 0 ≤ x ^^^ y ↔ (x.toInt < 0 ↔ y.toInt < 0) := by
  have h : ∀ z : Int64, z.toBitVec.msb = decide (z.toInt < 0) := fun z => BitVec.msb_eq_toInt
  have h1 : 0 ≤ x ^^^ y ↔ (x ^^^ y).toBitVec.msb = false := by
    rw [h, fa_le64]; simp
  rw [h1, Int64.toBitVec_xor, BitVec.msb_xor, h, h]
  by_cases a : x.toInt < 0 <;> by_cases b : y.toInt < 0 <;> simp [a, b]
theorem tdiv_floor {a b : Int} (hb : 0 < b) : a / b = (if 0 ≤ a then a.tdiv b else if a.tdiv b * b = a then a.tdiv b else a.tdiv b - 1) := by
  have h := Int.tdiv_eq_ediv (a := a) (b := b)
  by_cases h1 : 0 ≤ a
  · rw [if_pos h1, h, if_pos (Or.inl h1)]; omega
  · rw [if_neg h1]
    by_cases h2 : b ∣ a
    · rw [if_pos (Int.tdiv_mul_cancel h2), h, if_pos (Or.inr h2)]; omega
    · rw [if_neg (fun e => h2 ⟨a.tdiv b, by rw [Int.mul_comm]; exact e.symm⟩), h, if_neg (fun e => e.elim h1 h2), Int.sign_eq_one_of_pos hb]; omega
theorem lZ_fd {a b : Int} (h1 : -4611686018427387904 ≤ a) (h2 : a < 4611686018427387904) (h3 : 0 < b) (h4 : b < 4611686018427387904) : zfd (lZ a) (lZ b) = lZ (a / b) := by
  have hd := lZ_div h1 h2 (show -4611686018427387904 ≤ b by omega) h4
  have h5 := tdiv_rng (b := b) h1 h2
  have hx : (0 ≤ lg_cmp (lZ a ^^^ lZ b) 0) ↔ 0 ≤ a := by
    rw [lgc_ge, i64_xor, lZ_toInt (by omega) (by omega), lZ_toInt (by omega) (by omega)]; omega
  have he : (lZ (a.tdiv b) * lZ b = lZ a) ↔ a.tdiv b * b = a := by
    rw [lZ_mul]
    have h6 : (a.tdiv b * b).natAbs ≤ a.natAbs := by
      rw [Int.natAbs_mul, Int.natAbs_tdiv]; exact Nat.div_mul_le_self _ _
    constructor
    · intro h
      have h7 := congrArg Int64.toInt h
      rw [lZ_toInt (by omega) (by omega), lZ_toInt (by omega) (by omega)] at h7
      exact h7
    · intro h; rw [h]
  unfold zfd
  rw [hd, tdiv_floor h3]
  by_cases c1 : 0 ≤ a
  · rw [if_pos (hx.mpr c1), if_pos c1]
  · rw [if_neg (fun h => c1 (hx.mp h)), if_neg c1]
    by_cases c2 : a.tdiv b * b = a
    · rw [if_pos (he.mpr c2), if_pos c2]
    · rw [if_neg (fun h => c2 (he.mp h)), if_neg c2]
      exact lZ_sub _ 1
/-! the town's own numbers -/
def zpe (T : zTo) (h : Nat) : Nat := T.1 5 + T.1 6 * (h - 1)
def zfl (T : zTo) (h : Nat) : Nat := zpe T h - zpe T h % T.1 11
def zmb (T : zTo) (k : zKy) : Nat := zbits (zmay T k) 8
def zwx (T : zTo) (k : zKy) (y : Nat) : Nat := T.2.2.2 (k.1 * 8 + y)
def zpay (T : zTo) (e : Nat) : Nat := 1000 * T.1 9 * e / 1000000000
def zoft (k : zKy) : Nat := k.2.2.2 / 2 ^ (4 * k.1) % 16
/-- what it is worth to send it to y -/
def zwo (T : zTo) (k : zKy) (e : Nat → Nat) (g : Nat → Nat → Int) (y : Nat) : Int := g y k.1 + (((zoft k + 1) * zpay T (e y) : Nat) : Int) + 1000 * ((T.2.2.1 k.1 : Int) - (T.1 6 : Int))
def zli (T : zTo) (k : zKy) (e : Nat → Nat) (g : Nat → Nat → Int) : Nat → Option Nat
  | 0 => none
  | y + 1 => if zmay T k y then (match zli T k e g y with | none => some y | some q => if zwo T k e g q < zwo T k e g y then some y else some q) else zli T k e g y
def zch (T : zTo) (k : zKy) (e : Nat → Nat) (g : Nat → Nat → Int) : Option Nat := match zli T k e g 8 with
  | none => none
  | some q => if 1000 * (zpe T k.2.1 : Int) < zwo T k e g q then some q else none
def zoE (T : zTo) (k : zKy) : Nat := if k.2.1 = T.1 7 then 1000000000 else 0
def zoG (T : zTo) (k : zKy) (p : Nat) : Int := if p = k.1 then 1000 * ((zpe T k.2.1 : Int) + (if k.2.1 = T.1 7 then (T.1 8 : Int) else 0)) else 0
def zbs (T : zTo) (k : zKy) (e : Nat → Nat) (g : Nat → Nat → Int) (y p : Nat) : Int := g y p + (if p = k.1 then (zpay T (e y) : Int) - 1000 * (T.1 6 : Int) else 0)
def zwS (T : zTo) (k : zKy) : Nat := fb_sm (fun y => if zmay T k y then zwx T k y else 0) 8
def zsG (T : zTo) (k : zKy) (e : Nat → Nat) (g : Nat → Nat → Int) (p : Nat) : Int := fb_si (fun y => if zmay T k y then (zwx T k y : Int) * zbs T k e g y p else 0) 8 / (zwS T k : Int)
def zsE (T : zTo) (k : zKy) (e : Nat → Nat) : Nat := fb_sm (fun y => if zmay T k y then zwx T k y * e y else 0) 8 / zwS T k
def zRk (T : zTo) (k : zKy) (e : Nat → Nat) (g : Nat → Nat → Int) : Nat × (Nat → Int) × Option Nat :=
  if zmb T k = 0 then (zoE T k, zoG T k, none)
  else if T.2.1 k.1 = 3 then (match zch T k e g with | none => (zoE T k, zoG T k, none) | some q => (e q, zbs T k e g q, some q))
  else if T.2.1 k.1 = 0 ∧ T.2.2.1 k.1 ≤ zfl T k.2.1 then (zoE T k, zoG T k, none)
  else if T.2.1 k.1 = 2 then (zsE T k e * (1000 - T.2.2.1 k.1) / 1000, fun p => (zsG T k e g p * (1000 - (T.2.2.1 k.1 : Int)) + (if p = k.1 then 1000 * (zpe T k.2.1 : Int) * (T.2.2.1 k.1 : Int) else 0)) / 1000, none)
  else (zsE T k e, zsG T k e g, none)
def zVk (T : zTo) : Nat → zKy → Nat × (Nat → Int) × Option Nat
  | 0, _ => (0, fun _ => 0, none)
  | n + 1, k => zRk T k (fun y => (zVk T n (zbk T k y)).1) (fun y => (zVk T n (zbk T k y)).2.1)
/-- ENDS, GETS, BEST at a HAND -/
def zvl (T : zTo) (k : zKy) : Nat × (Nat → Int) × Option Nat := zVk T (13 - k.2.1) k
theorem zvl_eq {T : zTo} {k : zKy} (hT : zTok T) (hk : zkok T k) : zvl T k = zRk T k (fun y => (zvl T (zbk T k y)).1) (fun y => (zvl T (zbk T k y)).2.1) := by
  have h1 := hk.2.1.2
  have h2 := hT.2.2.2.1.2
  have e : 13 - k.2.1 = (13 - (k.2.1 + 1)) + 1 := by omega
  simp only [zvl, zbk]
  rw [e]
  rfl
theorem zmb_tb (T : zTo) (k : zKy) {y : Nat} (hy : y < 8) : (zmb T k).testBit y = zmay T k y := by
  rw [zmb, zbits_tb]; simp [hy]
theorem zmb_lt (T : zTo) (k : zKy) : zmb T k < 256 := zbits_lt _ 8
theorem zli_may (T : zTo) (k : zKy) (e : Nat → Nat) (g : Nat → Nat → Int) : ∀ n q, zli T k e g n = some q → q < n ∧ zmay T k q = true
  | 0, q, h => by cases h
  | n + 1, q, h => by
    have ih := zli_may T k e g n
    simp only [zli] at h
    split at h
    · rename_i hm
      cases hz : zli T k e g n with
      | none => rw [hz] at h; cases h; exact ⟨by omega, hm⟩
      | some r =>
        rw [hz] at h
        have := ih r hz
        simp only at h
        split at h <;> cases h
        · exact ⟨by omega, hm⟩
        · exact ⟨by omega, this.2⟩
    · have := ih q h
      exact ⟨by omega, this.2⟩
theorem zli_some (T : zTo) (k : zKy) (e : Nat → Nat) (g : Nat → Nat → Int) : ∀ n y, y < n → zmay T k y = true → zli T k e g n ≠ none
  | 0, y, h, _ => absurd h (Nat.not_lt_zero y)
  | n + 1, y, h, hm => by
    simp only [zli]
    split
    · cases zli T k e g n with
      | none => exact fun h => by cases h
      | some r => simp only; split <;> exact fun h => by cases h
    · rename_i hn
      by_cases hy : y = n
      · subst hy; exact absurd hm hn
      · exact zli_some T k e g n y (by omega) hm
theorem zch_may {T : zTo} {k : zKy} {e : Nat → Nat} {g : Nat → Nat → Int} {q : Nat} (h : zch T k e g = some q) : q < 8 ∧ zmay T k q = true := by
  unfold zch at h
  cases hz : zli T k e g 8 with
  | none => rw [hz] at h; cases h
  | some r =>
    rw [hz] at h
    simp only at h
    split at h
    · cases h; exact zli_may T k e g 8 _ hz
    · cases h
