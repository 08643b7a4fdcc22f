/-! LetterTown: one -/
theorem zcnt_c {f g : Nat → Bool} : ∀ {n : Nat}, (∀ j, j < n → f j = g j) → zcnt f n = zcnt g n
  | 0, _ => rfl
  | n + 1, h => by simp only [zcnt]; rw [zcnt_c (fun j hj => h j (by omega)), h n (by omega)]
theorem zcnt_mono {f g : Nat → Bool} : ∀ {n : Nat}, (∀ j, j < n → g j = true → f j = true) → zcnt g n ≤ zcnt f n
  | 0, _ => Nat.le_refl _
  | n + 1, h => by
    have ih := zcnt_mono (f := f) (g := g) (n := n) (fun j hj => h j (by omega))
    have hn := h n (by omega)
    simp only [zcnt]
    cases hg : g n with
    | false => cases f n <;> simp <;> omega
    | true => rw [hn hg]; simp; omega
theorem zcnt_nest {f g : Nat → Bool} : ∀ {n : Nat}, (∀ j, j < n → g j = true → f j = true) → zcnt f n = zcnt g n → ∀ j, j < n → f j = g j
  | 0, _, _, j, hj => absurd hj (Nat.not_lt_zero j)
  | n + 1, h, he, j, hj => by
    have hm := zcnt_mono (f := f) (g := g) (n := n) (fun j hj => h j (by omega))
    have hn := h n (by omega)
    simp only [zcnt] at he
    have hfg : f n = g n := by
      cases hf : f n with
      | false => cases hg : g n with
        | false => rfl
        | true => rw [hn hg] at hf; cases hf
      | true => cases hg : g n with
        | true => rfl
        | false => rw [hf, hg] at he; simp at he; omega
    by_cases hjn : j = n
    · subst hjn; exact hfg
    · rw [hfg] at he
      exact zcnt_nest (n := n) (fun j hj => h j (by omega)) (by omega) j (by omega)
/-- at how many hands it would be opened -/
def zho (U : zTo) (x : Nat) : Nat := zcnt (fun h => decide (x ≤ zfl U (h + 1))) (U.1 7)
theorem zho_eq {U : zTo} {x y : Nat} (hxy : x ≤ y) (h : zho U x = zho U y) {a : Nat} (ha : 1 ≤ a ∧ a ≤ U.1 7) : x ≤ zfl U a ↔ y ≤ zfl U a := by
  have := zcnt_nest (f := fun h => decide (x ≤ zfl U (h + 1))) (g := fun h => decide (y ≤ zfl U (h + 1))) (fun j _ h => by simp only [decide_eq_true_eq] at h ⊢; omega) h (a - 1) (by omega)
  rw [show a - 1 + 1 = a by omega] at this
  simpa using this
def zTon (U : zTo) (p v : Nat) : zTo := zTn1 (zTq U p 0) p v
theorem zli_cg {T S : zTo} {k : zKy} {e : Nat → Nat} {g : Nat → Nat → Int} (h1 : ∀ y, zwo T k e g y = zwo S k e g y) (h2 : zmay T k = zmay S k) : ∀ n, zli T k e g n = zli S k e g n
  | 0 => rfl
  | n + 1 => by
    simp only [zli, zli_cg h1 h2 n, h2]
    cases zli S k e g n with
    | none => rfl
    | some q => simp only [h1]
theorem zRk_num {U : zTo} {p x y : Nat} {k : zKy} (hk : 1 ≤ k.2.1 ∧ k.2.1 ≤ U.1 7) (h : ∀ a, 1 ≤ a ∧ a ≤ U.1 7 → (x ≤ zfl U a ↔ y ≤ zfl U a)) (e : Nat → Nat) (g : Nat → Nat → Int) : zRk (zTon U p x) k e g = zRk (zTon U p y) k e g := by
  have e0 : zmb (zTon U p x) k = zmb (zTon U p y) k := rfl
  have e1 : zoE (zTon U p x) k = zoE (zTon U p y) k := rfl
  have e2 : zoG (zTon U p x) k = zoG (zTon U p y) k := rfl
  have e3 : zsE (zTon U p x) k = zsE (zTon U p y) k := rfl
  have e4 : zsG (zTon U p x) k = zsG (zTon U p y) k := rfl
  have e5 : zbs (zTon U p x) k = zbs (zTon U p y) k := rfl
  have e6 : zpe (zTon U p x) = zpe U := rfl
  have e7 : zpe (zTon U p y) = zpe U := rfl
  have e8 : zfl (zTon U p x) = zfl U := rfl
  have e9 : zfl (zTon U p y) = zfl U := rfl
  by_cases hp : k.1 = p
  · have s1 : (zTon U p x).2.1 k.1 = 0 := by simp [zTon, zTn1, zTq, hp]
    have s2 : (zTon U p y).2.1 k.1 = 0 := by simp [zTon, zTn1, zTq, hp]
    have n1 : (zTon U p x).2.2.1 k.1 = x := by simp [zTon, zTn1, hp]
    have n2 : (zTon U p y).2.2.1 k.1 = y := by simp [zTon, zTn1, hp]
    simp only [zRk, s1, s2, n1, n2, e0, e1, e2, e3, e4, e8, e9, h k.2.1 hk]
    rfl
  · have s1 : (zTon U p x).2.1 k.1 = U.2.1 k.1 := by simp [zTon, zTn1, zTq, hp]
    have s2 : (zTon U p y).2.1 k.1 = U.2.1 k.1 := by simp [zTon, zTn1, zTq, hp]
    have n1 : (zTon U p x).2.2.1 k.1 = U.2.2.1 k.1 := by simp [zTon, zTn1, zTq, hp]
    have n2 : (zTon U p y).2.2.1 k.1 = U.2.2.1 k.1 := by simp [zTon, zTn1, zTq, hp]
    have hw : ∀ z, zwo (zTon U p x) k e g z = zwo (zTon U p y) k e g z := fun z => by
      simp only [zwo, n1, n2]; rfl
    have hc : zch (zTon U p x) k e g = zch (zTon U p y) k e g := by
      simp only [zch, zli_cg hw rfl, e6, e7]
      cases zli (zTon U p y) k e g 8 with
      | none => rfl
      | some q => simp only [hw]
    simp only [zRk, s1, s2, n1, n2, hc, e0, e1, e2, e3, e4, e5, e6, e7, e8, e9]
theorem zRk_far {T : zTo} {k : zKy} (h : ¬ k.2.1 < T.1 7) (e : Nat → Nat) (g : Nat → Nat → Int) : zRk T k e g = (zoE T k, zoG T k, none) := by
  have : zmb T k = 0 := zmay_h h
  simp only [zRk, this, if_true]
theorem zVk_num {U : zTo} {p x y : Nat} (h : ∀ a, 1 ≤ a ∧ a ≤ U.1 7 → (x ≤ zfl U a ↔ y ≤ zfl U a)) : ∀ n k, 1 ≤ k.2.1 → zVk (zTon U p x) n k = zVk (zTon U p y) n k
  | 0, k, _ => rfl
  | n + 1, k, h1 => by
    simp only [zVk]
    by_cases hk : k.2.1 < U.1 7
    · rw [zRk_num ⟨h1, by omega⟩ h]
      have ih : ∀ z, zVk (zTon U p x) n (zbk (zTon U p x) k z) = zVk (zTon U p y) n (zbk (zTon U p y) k z) := fun z => by
        rw [show zbk (zTon U p x) k z = zbk (zTon U p y) k z from rfl]
        exact zVk_num h n _ (by simp [zbk])
      simp only [ih]
    · rw [zRk_far (T := zTon U p x) hk, zRk_far (T := zTon U p y) hk]; rfl
/-- what p gets who opens at v -/
def zgn (U : zTo) (p v : Nat) : Int := (zvl (zTon U p v) (zfk (zTon U p v))).2.1 p
theorem zgn_eq {U : zTo} {p x y : Nat} (hxy : x ≤ y) (h : zho U x = zho U y) : zgn U p x = zgn U p y := by
  simp only [zgn, zvl]
  rw [show zfk (zTon U p x) = zfk (zTon U p y) from rfl, zVk_num (fun a ha => zho_eq hxy h ha) _ _ (by simp [zfk])]
/-- the first of the best among 0 .. m -/
def zbx (V : Nat → Int) : Nat → Nat
  | 0 => 0
  | m + 1 => if V (zbx V m) < V (m + 1) then m + 1 else zbx V m
theorem zbx_le (V : Nat → Int) : ∀ m, zbx V m ≤ m
  | 0 => Nat.le_refl _
  | m + 1 => by
    have := zbx_le V m
    simp only [zbx]; split <;> omega
theorem zbx_max (V : Nat → Int) : ∀ m j, j ≤ m → V j ≤ V (zbx V m)
  | 0, j, h => by rw [Nat.le_zero.mp h]; exact Int.le_refl _
  | m + 1, j, h => by
    have ih := zbx_max V m
    simp only [zbx]
    split
    · rename_i h1
      by_cases hj : j = m + 1
      · rw [hj]; exact Int.le_refl _
      · have := ih j (by omega); omega
    · rename_i h1
      by_cases hj : j = m + 1
      · rw [hj]; omega
      · exact ih j (by omega)
theorem zLk.on (U : zTo) (p v : Nat) : zLk (zTon U p v) U := ⟨rfl, rfl, rfl, rfl, rfl, rfl⟩
