/-! how large what is reckoned may be -/
theorem ediv_rng {a b c : Int} (h1 : -c ≤ a) (h2 : a ≤ c) (hb : 0 < b) (hc : 0 ≤ c) : -c ≤ a / b ∧ a / b ≤ c := by
  have h3 : c ≤ c * b := by
    have := Int.mul_le_mul_of_nonneg_left (show (1 : Int) ≤ b by omega) hc
    rwa [Int.mul_one] at this
  refine ⟨Int.le_ediv_of_mul_le hb ?_, Int.ediv_le_of_le_mul hb (by omega)⟩
  rw [Int.neg_mul]; omega
theorem zpay_le {T : zTo} (hT : zTok T) {e : Nat} (he : e ≤ 1000000000) : zpay T e ≤ 9999000 := by
  have h1 : 1000 * T.1 9 * e ≤ 1000 * 9999 * 1000000000 := Nat.mul_le_mul (Nat.mul_le_mul (Nat.le_refl _) hT.2.2.2.2.2.1) he
  simp only [zpay]; omega
theorem zoft_lt (k : zKy) : zoft k < 16 := Nat.mod_lt _ (by decide)
theorem zwo_rng {T : zTo} (hT : zTok T) {k : zKy} {e : Nat → Nat} {g : Nat → Nat → Int} {y : Nat} (he : e y ≤ 1000000000) (hg : -420000000 ≤ g y k.1 ∧ g y k.1 ≤ 420000000) : -1000000000 ≤ zwo T k e g y ∧ zwo T k e g y ≤ 1000000000 := by
  have h1 := zpay_le hT he
  have h2 := zoft_lt k
  have h3 : (zoft k + 1) * zpay T (e y) ≤ 16 * 9999000 := Nat.mul_le_mul (by omega) h1
  have h4 := (hT.2.2.2.2.2.2.2.2.2.2.1 k.1).2.1
  have h5 := hT.2.2.1
  simp only [zwo]
  generalize (zoft k + 1) * zpay T (e y) = A at h3
  omega
theorem zbs_rng {T : zTo} (hT : zTok T) {k : zKy} {e : Nat → Nat} {g : Nat → Nat → Int} {y p : Nat} {B : Int} (he : e y ≤ 1000000000) (hg : -B ≤ g y p ∧ g y p ≤ B) : -(B + 10000000) ≤ zbs T k e g y p ∧ zbs T k e g y p ≤ B + 10000000 := by
  have h1 := zpay_le hT he
  have h5 := hT.2.2.1
  simp only [zbs]
  split <;> omega
theorem wavg {m : Nat → Bool} {u : Nat → Nat} {x : Nat → Int} {B : Int} : ∀ {n : Nat}, (∀ y, y < n → m y = true → -B ≤ x y ∧ x y ≤ B) → -(B * (fb_sm (fun y => if m y then u y else 0) n : Int)) ≤ fb_si (fun y => if m y then (u y : Int) * x y else 0) n ∧ fb_si (fun y => if m y then (u y : Int) * x y else 0) n ≤ B * (fb_sm (fun y => if m y then u y else 0) n : Int)
  | 0, _ => by simp [fb_sm, fb_si]
  | n + 1, h => by
    obtain ⟨h1, h2⟩ := wavg (u := u) (x := x) (n := n) (fun y hy => h y (by omega))
    simp only [fb_sm_succ, fb_si_succ]
    by_cases hm : m n = true
    · obtain ⟨h3, h4⟩ := h n (by omega) hm
      have h5 : (u n : Int) * x n ≤ (u n : Int) * B := Int.mul_le_mul_of_nonneg_left h4 (by omega)
      have h6 : (u n : Int) * (-B) ≤ (u n : Int) * x n := Int.mul_le_mul_of_nonneg_left h3 (by omega)
      rw [Int.mul_neg] at h6
      rw [if_pos hm, if_pos hm, Int.natCast_add, Int.mul_add, Int.mul_comm B (u n : Int)]
      omega
    · rw [if_neg hm, if_neg hm, Int.natCast_add, Int.mul_add]
      simp only [Int.natCast_zero, Int.mul_zero]
      omega
theorem wavgN {m : Nat → Bool} {u e : Nat → Nat} {B : Nat} : ∀ {n : Nat}, (∀ y, y < n → m y = true → e y ≤ B) → fb_sm (fun y => if m y then u y * e y else 0) n ≤ B * fb_sm (fun y => if m y then u y else 0) n
  | 0, _ => by simp [fb_sm]
  | n + 1, h => by
    have h1 := wavgN (u := u) (n := n) (fun y hy => h y (by omega))
    simp only [fb_sm_succ]
    by_cases hm : m n = true
    · have h5 : u n * e n ≤ u n * B := Nat.mul_le_mul_left _ (h n (by omega) hm)
      rw [if_pos hm, if_pos hm, Nat.mul_add, Nat.mul_comm B (u n)]
      omega
    · rw [if_neg hm, if_neg hm, Nat.mul_add]
      omega
theorem zmb_0 {T : zTo} {k : zKy} (h : ¬ zmb T k = 0) : ∃ y, y < 8 ∧ zmay T k y = true := by
  refine Classical.byContradiction fun hno => h (zbits_f fun j hj => ?_)
  cases hz : zmay T k j with
  | false => rfl
  | true => exact absurd ⟨j, hj, hz⟩ hno
theorem zmay_w {T : zTo} {k : zKy} {y : Nat} (h : zmay T k y = true) : T.2.2.2 (k.1 * 8 + y) ≠ 0 := by
  simp only [zmay, Bool.and_eq_true, decide_eq_true_eq] at h
  exact h.1.1.2
theorem zmay_h1 {T : zTo} {k : zKy} {y : Nat} (h : zmay T k y = true) : k.2.1 < T.1 7 := by
  simp only [zmay, Bool.and_eq_true, decide_eq_true_eq] at h
  exact h.1.1.1
theorem zwS_pos {T : zTo} {k : zKy} (h : ¬ zmb T k = 0) : 0 < zwS T k := by
  obtain ⟨y, hy, hm⟩ := zmb_0 h
  have h1 := fb_sm_part (fun y => if zmay T k y then zwx T k y else 0) hy
  simp only [hm, if_true] at h1
  have h2 : zwx T k y ≠ 0 := zmay_w hm
  simp only [zwS]; omega
theorem zVk_rng {T : zTo} (hT : zTok T) : ∀ n k, zkok T k → (zVk T n k).1 ≤ 1000000000 ∧ ∀ p, -(30000000 * ((n : Int) + 1)) ≤ (zVk T n k).2.1 p ∧ (zVk T n k).2.1 p ≤ 30000000 * ((n : Int) + 1)
  | 0, k, _ => ⟨by simp [zVk], fun p => by simp only [zVk]; omega⟩
  | n + 1, k, hk => by
    have ih := zVk_rng hT n
    have hkb : ∀ y, y < 8 → zmay T k y = true → zkok T (zbk T k y) := fun y hy hm => hk.bk hy hm
    have hpe := zpe_le hT (show k.2.1 ≤ 13 by have := hk.2.1.2; have := hT.2.2.2.1.2; omega)
    have h8 := hT.2.2.2.2.1
    have hno := (hT.2.2.2.2.2.2.2.2.2.2.1 k.1).2.2.1
    have hop : zoE T k ≤ 1000000000 ∧ ∀ p, -30000000 ≤ zoG T k p ∧ zoG T k p ≤ 30000000 := by
      refine ⟨by simp only [zoE]; split <;> omega, fun p => ?_⟩
      simp only [zoG]
      split
      · split <;> omega
      · omega
    have hop2 : zoE T k ≤ 1000000000 ∧ ∀ p, -(30000000 * (((n + 1 : Nat) : Int) + 1)) ≤ zoG T k p ∧ zoG T k p ≤ 30000000 * (((n + 1 : Nat) : Int) + 1) := ⟨hop.1, fun p => by have := hop.2 p; omega⟩
    simp only [zVk]
    generalize he : (fun y => (zVk T n (zbk T k y)).1) = e
    generalize hg : (fun y => (zVk T n (zbk T k y)).2.1) = g
    have hev : ∀ y, y < 8 → zmay T k y = true → e y ≤ 1000000000 := fun y hy hm => by rw [← he]; exact (ih _ (hkb y hy hm)).1
    have hgv : ∀ y p, y < 8 → zmay T k y = true → -(30000000 * ((n : Int) + 1)) ≤ g y p ∧ g y p ≤ 30000000 * ((n : Int) + 1) := fun y p hy hm => by rw [← hg]; exact (ih _ (hkb y hy hm)).2 p
    have hbv : ∀ y p, y < 8 → zmay T k y = true → -(30000000 * ((n : Int) + 1) + 10000000) ≤ zbs T k e g y p ∧ zbs T k e g y p ≤ 30000000 * ((n : Int) + 1) + 10000000 := fun y p hy hm => zbs_rng hT (hev y hy hm) (hgv y p hy hm)
    simp only [zRk]
    split
    · exact hop2
    · rename_i hmb
      have hW := zwS_pos hmb
      have hsG : ∀ p, -(30000000 * ((n : Int) + 1) + 10000000) ≤ zsG T k e g p ∧ zsG T k e g p ≤ 30000000 * ((n : Int) + 1) + 10000000 := fun p => by
        obtain ⟨a1, a2⟩ := wavg (m := zmay T k) (u := zwx T k) (x := fun y => zbs T k e g y p) (n := 8) (B := 30000000 * ((n : Int) + 1) + 10000000) (fun y hy hm => hbv y p hy hm)
        have hW2 : (0 : Int) < (zwS T k : Int) := by omega
        exact ⟨Int.le_ediv_of_mul_le hW2 (by rw [Int.neg_mul]; exact a1), Int.ediv_le_of_le_mul hW2 a2⟩
      have hsE : zsE T k e ≤ 1000000000 := by
        have a2 := wavgN (m := zmay T k) (u := zwx T k) (e := e) (n := 8) (B := 1000000000) (fun y hy hm => hev y hy hm)
        simp only [zsE]
        exact Nat.div_le_of_le_mul (by rw [Nat.mul_comm]; exact a2)
      split
      · cases hc : zch T k e g with
        | none => exact hop2
        | some q =>
          have hq := zch_may hc
          exact ⟨hev q hq.1 hq.2, fun p => by have := hbv q p hq.1 hq.2; simp only; omega⟩
      · split
        · exact hop2
        · split
          · rename_i h2
            have hn1 := hno h2
            refine ⟨?_, fun p => ?_⟩
            · have : zsE T k e * (1000 - T.2.2.1 k.1) ≤ 1000000000 * 1000 := Nat.mul_le_mul hsE (by omega)
              simp only; omega
            · obtain ⟨b1, b2⟩ := hsG p
              simp only
              generalize zsG T k e g p = S at b1 b2
              have hB : (0 : Int) ≤ 30000000 * ((n : Int) + 1) + 10000000 := by omega
              generalize hBB : 30000000 * ((n : Int) + 1) + 10000000 = B at b1 b2 hB
              have hm0 : (0 : Int) ≤ 1000 - (T.2.2.1 k.1 : Int) := by omega
              have c1 : S * (1000 - (T.2.2.1 k.1 : Int)) ≤ B * (1000 - (T.2.2.1 k.1 : Int)) := Int.mul_le_mul_of_nonneg_right b2 hm0
              have c2 : (-B) * (1000 - (T.2.2.1 k.1 : Int)) ≤ S * (1000 - (T.2.2.1 k.1 : Int)) := Int.mul_le_mul_of_nonneg_right b1 hm0
              have c3 : (if p = k.1 then 1000 * (zpe T k.2.1 : Int) * (T.2.2.1 k.1 : Int) else 0) ≤ B * (T.2.2.1 k.1 : Int) := by
                split
                · exact Int.mul_le_mul_of_nonneg_right (by omega) (by omega)
                · exact Int.mul_nonneg hB (by omega)
              have c4 : 0 ≤ (if p = k.1 then 1000 * (zpe T k.2.1 : Int) * (T.2.2.1 k.1 : Int) else 0) := by
                split
                · exact Int.mul_nonneg (by omega) (by omega)
                · omega
              have c5 : (0 : Int) ≤ B * (T.2.2.1 k.1 : Int) := Int.mul_nonneg hB (by omega)
              have e1 : B * (1000 - (T.2.2.1 k.1 : Int)) = B * 1000 - B * (T.2.2.1 k.1 : Int) := Int.mul_sub _ _ _
              rw [e1] at c1
              rw [Int.neg_mul, e1] at c2
              generalize (if p = k.1 then 1000 * (zpe T k.2.1 : Int) * (T.2.2.1 k.1 : Int) else 0) = X at c3 c4
              generalize S * (1000 - (T.2.2.1 k.1 : Int)) = Y at c1 c2
              generalize B * (T.2.2.1 k.1 : Int) = Z at c1 c2 c3 c5
              omega
          · exact ⟨hsE, fun p => by have := hsG p; simp only; omega⟩
theorem zvl_rng {T : zTo} (hT : zTok T) {k : zKy} (hk : zkok T k) : (zvl T k).1 ≤ 1000000000 ∧ ∀ p, -420000000 ≤ (zvl T k).2.1 p ∧ (zvl T k).2.1 p ≤ 420000000 := by
  obtain ⟨h1, h2⟩ := zVk_rng hT (13 - k.2.1) k hk
  have h3 := hk.2.1
  refine ⟨h1, fun p => ?_⟩
  have := h2 p
  simp only [zvl]
  omega
/-! the HANDS stand in the order of their hands -/
theorem zgx_mem {T : zTo} {k : zKy} {K : List zKy} : ∀ y q, q ∈ zgx T k K y → q ∈ K ∨ q.2.1 = k.2.1 + 1
  | 0, q, h => Or.inl h
  | y + 1, q, h => by
    have ih := zgx_mem (T := T) (k := k) (K := K) y q
    simp only [zgx] at h
    split at h
    · unfold zins at h
      split at h
      · exact ih h
      · rcases List.mem_append.mp h with h | h
        · exact ih h
        · rw [List.mem_singleton.mp h]; exact Or.inr rfl
    · exact ih h
theorem zsorted_app {K L : List zKy} {c : Nat} (hK : ∀ (x y : Nat) (p q : zKy), x ≤ y → K[x]? = some p → K[y]? = some q → p.2.1 ≤ q.2.1) (h1 : ∀ p ∈ K, p.2.1 ≤ c) (h2 : ∀ q ∈ L, q.2.1 = c) : ∀ (x y : Nat) (p q : zKy), x ≤ y → (K ++ L)[x]? = some p → (K ++ L)[y]? = some q → p.2.1 ≤ q.2.1 := by
  intro x y p q hxy hx hy
  by_cases hy2 : y < K.length
  · rw [List.getElem?_append_left hy2] at hy
    rw [List.getElem?_append_left (by omega)] at hx
    exact hK x y p q hxy hx hy
  · rw [List.getElem?_append_right (by omega)] at hy
    have hq := h2 q (List.mem_iff_getElem?.mpr ⟨_, hy⟩)
    by_cases hx2 : x < K.length
    · rw [List.getElem?_append_left hx2] at hx
      have := h1 p (List.mem_iff_getElem?.mpr ⟨_, hx⟩)
      omega
    · rw [List.getElem?_append_right (by omega)] at hx
      have := h2 p (List.mem_iff_getElem?.mpr ⟨_, hx⟩)
      omega
theorem zgr_sorted (T : zTo) : ∀ n, (∀ (x y : Nat) (p q : zKy), x ≤ y → (zgr T n)[x]? = some p → (zgr T n)[y]? = some q → p.2.1 ≤ q.2.1) ∧ (∀ k, (zgr T n)[n]? = some k → ∀ p ∈ zgr T n, p.2.1 ≤ k.2.1 + 1)
  | 0 => by
    refine ⟨fun x y p q _ hx hy => ?_, fun k hk p hp => ?_⟩
    · have h1 := List.mem_singleton.mp (List.mem_iff_getElem?.mpr ⟨x, hx⟩)
      have h2 := List.mem_singleton.mp (List.mem_iff_getElem?.mpr ⟨y, hy⟩)
      rw [h1, h2]; exact Nat.le_refl _
    · have h1 := List.mem_singleton.mp (List.mem_iff_getElem?.mpr ⟨0, hk⟩)
      have h2 := List.mem_singleton.mp hp
      rw [h1, h2]; exact Nat.le_succ _
  | n + 1 => by
    obtain ⟨h1, h2⟩ := zgr_sorted T n
    cases hk : (zgr T n)[n]? with
    | none =>
      have e : zgr T (n + 1) = zgr T n := by simp only [zgr]; rw [hk]
      rw [e]
      refine ⟨h1, fun k hk2 => ?_⟩
      have := (List.getElem?_eq_some_iff.mp hk2).1
      have := List.getElem?_eq_none_iff.mp hk
      omega
    | some k =>
      have e : zgr T (n + 1) = zgx T k (zgr T n) 8 := by simp only [zgr]; rw [hk]
      have hle := h2 k hk
      have hmem : ∀ q ∈ zgx T k (zgr T n) 8, q.2.1 ≤ k.2.1 + 1 := fun q hq => by
        rcases zgx_mem 8 q hq with h | h
        · exact hle q h
        · omega
      have hs : ∀ y, ∀ (a b : Nat) (p q : zKy), a ≤ b → (zgx T k (zgr T n) y)[a]? = some p → (zgx T k (zgr T n) y)[b]? = some q → p.2.1 ≤ q.2.1 := by
        intro y
        induction y with
        | zero => exact h1
        | succ y ih =>
          simp only [zgx]
          split
          · unfold zins
            split
            · exact ih
            · refine zsorted_app (c := k.2.1 + 1) ih (fun p hp => ?_) (fun q hq => by rw [List.mem_singleton.mp hq]; rfl)
              rcases zgx_mem y p hp with h | h
              · exact hle p h
              · omega
          · exact ih
      refine ⟨by rw [e]; exact hs 8, fun k2 hk2 p hp => ?_⟩
      rw [e] at hk2 hp
      have h3 := hs 8 n (n + 1) k k2 (by omega) (zgx_get hk 8) hk2
      have := hmem p hp
      omega
theorem zall_up {T : zTo} {K : List zKy} (hK : zall T K) {x c y : Nat} {k : zKy} (hx : K[x]? = some k) (hc : K[c]? = some (zbk T k y)) : x < c := by
  obtain ⟨n, rfl, -⟩ := hK
  refine Nat.lt_of_not_le fun h => ?_
  have := (zgr_sorted T n).1 c x _ _ h hc hx
  simp only [zbk] at this
  omega
