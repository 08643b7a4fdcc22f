/-! LetterTown$Theft -/
def zTh (w : zW) (i : Nat) : Prop := w.1 i = some (.inl 4) ∧ w.2.2.2 i 0 = some (i + 1) ∧ w.2.2.2 i 1 = some (i + 2) ∧ w.2.2.2 i 7 = some (i + 3) ∧ w.1 (i + 1) = some (.inr (false, 30)) ∧ w.1 (i + 2) = some (.inr (false, 30)) ∧ w.1 (i + 3) = some (.inr (false, 8))
def zthw (w : zW) (i : Nat) (su po se fw : Int32) (wi : Nat → Int32) : zW := (w.1, fun a b => if a = i then (if b = 3 then su else if b = 4 then po else if b = 5 then se else if b = 6 then fw else w.2.1 a b) else if a = i + 3 then wi b else w.2.1 a b, w.2.2)
/-- the set s EXPLAINS the first n letters -/
def zexp (thr few : Nat → Nat) (s : Nat) : Nat → Bool
  | 0 => true
  | n + 1 => zexp thr few s n && decide (zpop (s &&& thr n) = few n)
theorem zexp_le {thr few : Nat → Nat} {s : Nat} : ∀ {n m : Nat}, n ≤ m → zexp thr few s m = true → zexp thr few s n = true
  | n, 0, h, e => by rw [Nat.le_zero.mp h]; exact e
  | n, m + 1, h, e => by
    by_cases h1 : n = m + 1
    · rw [h1]; exact e
    · simp only [zexp, Bool.and_eq_true] at e
      exact zexp_le (by omega) e.1
def zoi (r : Option Nat) : Int32 := match r with
  | none => -1
  | some q => nI q
def zsu (ex : Nat → Bool) (a : Nat) : Nat → Nat
  | 0 => a
  | s + 1 => if ex s then zsu ex a s &&& s else zsu ex a s
def zpo (ex : Nat → Bool) : Nat → Nat
  | 0 => 0
  | s + 1 => if ex s then zpo ex s ||| s else zpo ex s
def zfw (ex : Nat → Bool) : Nat → Option Nat
  | 0 => none
  | s + 1 => if ex s then (match zfw ex s with | none => some s | some q => if zpop s < zpop q then some s else some q) else zfw ex s
theorem zfw_lt (ex : Nat → Bool) : ∀ s q, zfw ex s = some q → q < s
  | 0, q, h => by cases h
  | s + 1, q, h => by
    have ih := zfw_lt ex s
    simp only [zfw] at h
    split at h
    · cases hz : zfw ex s with
      | none => rw [hz] at h; cases h; omega
      | some q' =>
        rw [hz] at h
        have := ih q' hz
        simp only at h
        split at h <;> cases h <;> omega
    · have := ih q h; omega
theorem zpop_lt : ∀ b, b < 256 → zpop b < 9 := by decide +kernel
theorem zand_lt {a b : Nat} (h : a < 256) : a &&& b < 256 := Nat.lt_of_le_of_lt Nat.and_le_left h
set_option maxRecDepth 100000 in
theorem c_Theft_clear (Δ : zD) (w : zW) (i : Nat) (hi : w.1 i = some (.inl 4)) : zMd Δ 0 0 0 true yX4_clear mX4_clear [.ref i] w none (zsi w i 2 0) := by
  refine zM.of mfX4_clear (Nat.le_of_ble_eq_true rfl) ?_
  refine zJ_aload_n dX4_clear_0 rfl ?_
  refine zJ_iconst (v := 0) dX4_clear_1 (by decide) ?_
  refine zJ_puti dX4_clear_2 fX4_21 (fun q h => by cases h; rfl) (by first | rfl | assumption) rfl rfl rfl ?_
  exact zJ_vret dX4_clear_5 rfl (by decide) (by decide) ⟨rfl, rfl⟩
set_option maxRecDepth 100000 in
theorem c_Theft_add0 (Δ : zD) (w : zW) (i : Nat) (p q : Int32) (hT : zTh w i) (h : w.2.1 i 2 = 30) : zMd Δ 0 0 0 true yX4_add mX4_add [.ref i, .int p, .int q] w (some (.int 0)) w := by
  refine zM.of mfX4_add (Nat.le_of_ble_eq_true rfl) ?_
  obtain ⟨g0, r0, r1, r7, g1, g2, g3⟩ := hT
  refine zJ_aload_n dX4_add_0 rfl ?_
  refine zJ_geti dX4_add_1 fX4_21 (by first | rfl | assumption) rfl ?_
  refine zJ_bipush (v := 30) dX4_add_4 (by decide) ?_
  refine zJ_icmp_lt (tgt := 11) dX4_add_6 (by decide) (fun h6 => ?_) (fun h6 => ?_)
  · rw [h] at h6
    exact absurd h6 (by decide)
  · refine zJ_iconst (v := 0) dX4_add_9 (by decide) ?_
    exact zJ_zret dX4_add_10 rfl rfl (by decide) (by decide) ⟨rfl, rfl⟩
set_option maxRecDepth 100000 in
theorem c_Theft_add (Δ : zD) (w : zW) (i n : Nat) (p q : Int32) (hT : zTh w i) (h : w.2.1 i 2 = nI n) (hn : n < 30) : zMd Δ 0 0 0 true yX4_add mX4_add [.ref i, .int p, .int q] w (some (.int 1)) (zsi (zsi (zsi w (i + 1) n p) (i + 2) n q) i 2 (nI (n + 1))) := by
  refine zM.of mfX4_add (Nat.le_of_ble_eq_true rfl) ?_
  obtain ⟨g0, r0, r1, r7, g1, g2, g3⟩ := hT
  have e1 : (zsi w (i + 1) n p).2.1 i 2 = nI n := by simp [zsi, h]
  have e2 : (zsi (zsi w (i + 1) n p) (i + 2) n q).2.1 i 2 = nI n := by simp [zsi, h]
  refine zJ_aload_n dX4_add_0 rfl ?_
  refine zJ_geti dX4_add_1 fX4_21 (by first | rfl | assumption) rfl ?_
  refine zJ_bipush (v := 30) dX4_add_4 (by decide) ?_
  refine zJ_icmp_lt (tgt := 11) dX4_add_6 (by decide) (fun h6 => ?_) (fun h6 => ?_)
  · refine zJ_aload_n dX4_add_11 rfl ?_
    refine zJ_getr dX4_add_12 fX4_11 (by first | rfl | assumption) rfl (by first | rfl | assumption) ?_
    refine zJ_aload_n dX4_add_15 rfl ?_
    refine zJ_geti dX4_add_16 fX4_21 (by first | rfl | assumption) rfl ?_
    rw [h]
    refine zJ_iload_n dX4_add_19 rfl ?_
    refine zJ_iast dX4_add_20 (by first | rfl | assumption) (vp_in_nI hn (by decide)) ?_
    refine zJ_aload_n dX4_add_21 rfl ?_
    refine zJ_getr dX4_add_22 fX4_15 (by first | rfl | assumption) rfl (by first | rfl | assumption) ?_
    refine zJ_aload_n dX4_add_25 rfl ?_
    refine zJ_geti dX4_add_26 fX4_21 (by first | rfl | assumption) rfl ?_
    rw [nI_clamp (by omega), e1]
    refine zJ_iload_n dX4_add_29 rfl ?_
    refine zJ_iast dX4_add_30 (by first | rfl | assumption) (vp_in_nI hn (by decide)) ?_
    refine zJ_aload_n dX4_add_31 rfl ?_
    refine zJ_dup dX4_add_32 rfl ?_
    refine zJ_geti dX4_add_33 fX4_21 (by first | rfl | assumption) rfl ?_
    refine zJ_iconst (v := 1) dX4_add_36 (by decide) ?_
    refine zJ_iadd dX4_add_37 ?_
    refine zJ_puti dX4_add_38 fX4_21 (fun q h => by cases h; rfl) (by first | rfl | assumption) rfl rfl rfl ?_
    refine zJ_iconst (v := 1) dX4_add_41 (by decide) ?_
    exact zJ_zret dX4_add_42 rfl rfl (by decide) (by decide) ⟨rfl, by rw [nI_clamp (show n < 2 ^ 31 by omega), e2, show nI n + 1 = nI (n + 1) from nI_1 n]⟩
  · exact absurd ((nI_leI (a := 30) (b := n) (by decide) (by omega)).mp (by rw [← h]; exact Int32.not_lt.mp h6)) (by omega)
set_option maxRecDepth 100000 in
theorem c_Theft_explains (Δ : zD) (w : zW) (i n s : Nat) (thr few : Nat → Nat) (hT : zTh w i) (h : w.2.1 i 2 = nI n) (hn : n ≤ 30) (hs : s < 256) (h1 : ∀ k, k < n → w.2.1 (i + 1) k = nI (thr k)) (h2 : ∀ k, k < n → w.2.1 (i + 2) k = nI (few k) ∧ few k ≤ 8) : zMd Δ 1 0 0 true yX4_explains mX4_explains [.ref i, .int (nI s)] w (some (.int (if zexp thr few s n then 1 else 0))) w := by
  refine zM.of mfX4_explains (Nat.le_of_ble_eq_true rfl) ?_
  obtain ⟨g0, r0, r1, r7, g1, g2, g3⟩ := hT
  have L : ∀ j, j ≤ n → zexp thr few s j = true → zJ Δ mX4_explains (zRm 1 0 0) true w.1 (fun a b => a = some (.int (if zexp thr few s n then 1 else 0)) ∧ b = w) (fun _ _ => False) 0 0 2 [(2, .int (nI j)), (0, .ref i), (1, .int (nI s))] [] w := by
    refine zup (fun j hj ih hx => ?_)
    refine zJ_iload_n dX4_explains_2 rfl ?_
    refine zJ_aload_n dX4_explains_3 rfl ?_
    refine zJ_geti dX4_explains_4 fX4_21 (by first | rfl | assumption) rfl ?_
    refine zJ_icmp_ge (tgt := 38) dX4_explains_7 (by decide) (fun h7 => ?_) (fun h7 => ?_)
    · have hj9 : j = n := by rw [h] at h7; exact Nat.le_antisymm hj ((nI_leI (by omega) (by omega)).mp h7)
      refine zJ_iconst (v := 1) dX4_explains_38 (by decide) ?_
      exact zJ_zret dX4_explains_39 rfl rfl (by decide) (by decide) ⟨by rw [← hj9, hx]; rfl, rfl⟩
    · have hj9 : j < n := Nat.lt_of_not_le fun h9 => h7 (by rw [h]; exact (nI_leI (by omega) (by omega)).mpr h9)
      refine zJ_iload_n dX4_explains_10 rfl ?_
      refine zJ_aload_n dX4_explains_11 rfl ?_
      refine zJ_getr dX4_explains_12 fX4_11 (by first | rfl | assumption) rfl (by first | rfl | assumption) ?_
      refine zJ_iload_n dX4_explains_15 rfl ?_
      refine zJ_iald dX4_explains_16 (by first | rfl | assumption) (vp_in_nI (by omega) (by decide)) ?_
      rw [nI_clamp (show j < 2 ^ 31 by omega), h1 j hj9]
      refine zJ_st (st2 := [.int (nI (thr j)), .int (nI s)]) rfl ?_
      refine zJ_iand dX4_explains_17 ?_
      rw [na_and]
      refine zJ_cS1 dX4_explains_18 sX4_25 mfJ6_bitCount_0f7a4 (c_bitCount Δ w (s &&& thr j) (zand_lt hs)) (by decide) (by decide) (by decide) ?_
      refine zJ_aload_n dX4_explains_21 rfl ?_
      refine zJ_getr dX4_explains_22 fX4_15 (by first | rfl | assumption) rfl (by first | rfl | assumption) ?_
      refine zJ_iload_n dX4_explains_25 rfl ?_
      refine zJ_iald dX4_explains_26 (by first | rfl | assumption) (vp_in_nI (by omega) (by decide)) ?_
      rw [nI_clamp (show j < 2 ^ 31 by omega), (h2 j hj9).1]
      refine zJ_icmp_eq (tgt := 32) dX4_explains_27 (by decide) (fun h27 => ?_) (fun h27 => ?_)
      · refine zJ_iinc (ls2 := fun x32 => [(2, .int x32), (0, .ref i), (1, .int (nI s))]) dX4_explains_32 rfl (by decide) (fun _ => rfl) (fun x32 ex32 => ?_)
        refine zJ_goto (tgt := 2) dX4_explains_35 (by decide) ?_
        refine zJ_ls [(2, .int x32), (0, .ref i), (1, .int (nI s))] (by simp) ?_
        rw [ex32, show nI j + Int32.ofInt 1 = nI (j + 1) from nI_1 j]
        have h8 := zpop_lt (s &&& thr j) (zand_lt hs)
        have h9 := (h2 j hj9).2
        exact ih (j + 1) (by omega) (by omega) (by simp only [zexp, hx, Bool.true_and, decide_eq_true_eq]; exact (nI_eq (by omega) (by omega)).mp h27)
      · have hno : zexp thr few s n = false := by
          cases hz : zexp thr few s n with
          | false => rfl
          | true =>
            have h3 := zexp_le (show j + 1 ≤ n by omega) hz
            simp only [zexp, Bool.and_eq_true, decide_eq_true_eq] at h3
            exact absurd (by rw [h3.2]) h27
        refine zJ_iconst (v := 0) dX4_explains_30 (by decide) ?_
        exact zJ_zret dX4_explains_31 rfl rfl (by decide) (by decide) ⟨by rw [hno]; rfl, rfl⟩
  refine zJ_iconst (v := 0) dX4_explains_0 (by decide) ?_
  refine zJ_istore_n (ls2 := fun x1 => [(2, .int x1), (0, .ref i), (1, .int (nI s))]) dX4_explains_1 (by decide) (fun _ => rfl) (fun x1 ex1 => ?_)
  subst ex1
  exact L 0 (Nat.zero_le _) rfl
