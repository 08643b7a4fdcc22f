/-! numbers and bits -/
theorem na_and (a b : Nat) : nI a &&& nI b = nI (a &&& b) := by
  apply Int32.toBitVec_inj.1
  show BitVec.ofNat 32 a &&& BitVec.ofNat 32 b = BitVec.ofNat 32 (a &&& b)
  apply BitVec.eq_of_getLsbD_eq
  intro i hi
  simp [hi]
theorem na_or (a b : Nat) : nI a ||| nI b = nI (a ||| b) := by
  apply Int32.toBitVec_inj.1
  show BitVec.ofNat 32 a ||| BitVec.ofNat 32 b = BitVec.ofNat 32 (a ||| b)
  apply BitVec.eq_of_getLsbD_eq
  intro i hi
  simp [hi]
theorem na_shl : ∀ p, p < 31 → (1 : Int32) <<< (nI p &&& 31) = nI (2 ^ p) := by decide +kernel
/-- the bits below n that f has -/
def zbits (f : Nat → Bool) : Nat → Nat
  | 0 => 0
  | n + 1 => zbits f n + (if f n then 2 ^ n else 0)
theorem zbits_lt (f : Nat → Bool) : ∀ n, zbits f n < 2 ^ n
  | 0 => by simp [zbits]
  | n + 1 => by
    have h := zbits_lt f n
    have e : 2 ^ (n + 1) = 2 ^ n + 2 ^ n := by rw [Nat.pow_succ]; omega
    simp only [zbits]
    split <;> omega
theorem zbits_or (f : Nat → Bool) (n : Nat) : nI (zbits f n) ||| nI (2 ^ n) = nI (zbits f n + 2 ^ n) := by
  have h := Nat.two_pow_add_eq_or_of_lt (zbits_lt f n) 1
  rw [na_or, Nat.or_comm, show (2 ^ n ||| zbits f n) = 2 ^ n * 1 ||| zbits f n by rw [Nat.mul_one], ← h, Nat.mul_one, Nat.add_comm]
/-- how many below n f has -/
def zcnt (f : Nat → Bool) : Nat → Nat
  | 0 => 0
  | n + 1 => zcnt f n + (if f n then 1 else 0)
theorem zcnt_le (f : Nat → Bool) : ∀ n, zcnt f n ≤ n
  | 0 => Nat.le_refl _
  | n + 1 => by
    have h := zcnt_le f n
    simp only [zcnt]
    split <;> omega
/-! LetterTown$Town -/
/-- a Town at t, its rows behind it -/
def zTn (w : zW) (t : Nat) : Prop := w.1 t = some (.inl 5) ∧ w.2.2.2 t 1 = some (t + 1) ∧ w.2.2.2 t 2 = some (t + 2) ∧ w.2.2.2 t 3 = some (t + 3) ∧ w.2.2.2 t 4 = some (t + 4) ∧ w.1 (t + 1) = some (.inr (false, 8)) ∧ w.1 (t + 2) = some (.inr (false, 8)) ∧ w.1 (t + 3) = some (.inr (false, 8)) ∧ w.1 (t + 4) = some (.inr (false, 64))
def ztow (w : zW) (t : Nat) (sc a1 a2 a3 a4 : Nat → Int32) : zW := (w.1, fun i j => if i = t then sc j else if i = t + 1 then a1 j else if i = t + 2 then a2 j else if i = t + 3 then a3 j else if i = t + 4 then a4 j else w.2.1 i j, w.2.2)
theorem zag_tow {w w1 : zW} {t : Nat} {sc a1 a2 a3 a4 : Nat → Int32} (hT : zTn w t) (h1 : w1.1 = w.1) (h2 : w1.2.2 = w.2.2) (hsc : ∀ k, k < 14 → zct (zty 5 k) = 0 → w1.2.1 t k = sc k) (ha1 : ∀ j, j < 8 → w1.2.1 (t + 1) j = a1 j) (ha2 : ∀ j, j < 8 → w1.2.1 (t + 2) j = a2 j) (ha3 : ∀ j, j < 8 → w1.2.1 (t + 3) j = a3 j) (ha4 : ∀ j, j < 64 → w1.2.1 (t + 4) j = a4 j)
    (ho : ∀ i, i ≠ t → i ≠ t + 1 → i ≠ t + 2 → i ≠ t + 3 → i ≠ t + 4 → w1.2.1 i = w.2.1 i) : zag w1 (ztow w t sc a1 a2 a3 a4) := by
  obtain ⟨g0, -, -, -, -, g1, g2, g3, g4⟩ := hT
  refine ⟨h1.symm, by rw [h2]; rfl, fun i ci q hi hq k hk => ⟨fun hz => ?_, fun _ => by rw [h2]; rfl⟩, fun i n hi j hj => ?_, fun i n hi j hj => by rw [h2]; rfl⟩
  · rw [h1] at hi
    by_cases e0 : i = t
    · subst e0
      rw [g0] at hi; cases hi
      cases hq
      simp only [ztow, if_pos]
      exact (hsc k hk hz).symm
    · have e1 : i ≠ t + 1 := fun e => by rw [e, g1] at hi; cases hi
      have e2 : i ≠ t + 2 := fun e => by rw [e, g2] at hi; cases hi
      have e3 : i ≠ t + 3 := fun e => by rw [e, g3] at hi; cases hi
      have e4 : i ≠ t + 4 := fun e => by rw [e, g4] at hi; cases hi
      simp only [ztow, if_neg e0, if_neg e1, if_neg e2, if_neg e3, if_neg e4]
      rw [ho i e0 e1 e2 e3 e4]
  · rw [h1] at hi
    have e0 : i ≠ t := fun e => by rw [e, g0] at hi; cases hi
    by_cases e1 : i = t + 1
    · subst e1; rw [g1] at hi; cases hi
      simp only [ztow, if_neg e0, if_pos]
      exact (ha1 j hj).symm
    · by_cases e2 : i = t + 2
      · subst e2; rw [g2] at hi; cases hi
        simp only [ztow, if_neg e0, if_neg e1, if_pos]
        exact (ha2 j hj).symm
      · by_cases e3 : i = t + 3
        · subst e3; rw [g3] at hi; cases hi
          simp only [ztow, if_neg e0, if_neg e1, if_neg e2, if_pos]
          exact (ha3 j hj).symm
        · by_cases e4 : i = t + 4
          · subst e4; rw [g4] at hi; cases hi
            simp only [ztow, if_neg e0, if_neg e1, if_neg e2, if_neg e3, if_pos]
            exact (ha4 j hj).symm
          · simp only [ztow, if_neg e0, if_neg e1, if_neg e2, if_neg e3, if_neg e4]
            rw [ho i e0 e1 e2 e3 e4]
set_option maxRecDepth 100000 in
theorem c_Town_pence (Δ : zD) (w : zW) (t : Nat) (h : Int32) (ht : w.1 t = some (.inl 5)) : zMd Δ 0 0 0 true yX5_pence mX5_pence [.ref t, .int h] w (some (.int (w.2.1 t 5 + w.2.1 t 6 * (h - 1)))) w := by
  refine zM.of mfX5_pence (Nat.le_of_ble_eq_true rfl) ?_
  refine zJ_aload_n dX5_pence_0 rfl ?_
  refine zJ_geti dX5_pence_1 fX5_37 (by first | rfl | assumption) rfl ?_
  refine zJ_aload_n dX5_pence_4 rfl ?_
  refine zJ_geti dX5_pence_5 fX5_40 (by first | rfl | assumption) rfl ?_
  refine zJ_iload_n dX5_pence_8 rfl ?_
  refine zJ_iconst (v := 1) dX5_pence_9 (by decide) ?_
  refine zJ_isub dX5_pence_10 ?_
  refine zJ_imul dX5_pence_11 ?_
  refine zJ_iadd dX5_pence_12 ?_
  exact zJ_iret dX5_pence_13 rfl (by decide) (by decide) ⟨rfl, rfl⟩
/-- PENCE and FELT as the machine reckons them -/
def zpn (w : zW) (t : Nat) (h : Int32) : Int32 := w.2.1 t 5 + w.2.1 t 6 * (h - 1)
def zfe (w : zW) (t : Nat) (h : Int32) : Int32 := if w.2.1 t 11 ≤ 0 then zpn w t h else zpn w t h - (zpn w t h - zpn w t h / w.2.1 t 11 * w.2.1 t 11)
set_option maxRecDepth 100000 in
theorem c_Town_felt (Δ : zD) (w : zW) (t : Nat) (h : Int32) (ht : w.1 t = some (.inl 5)) : zMd Δ 1 0 0 true yX5_felt mX5_felt [.ref t, .int h] w (some (.int (zfe w t h))) w := by
  refine zM.of mfX5_felt (Nat.le_of_ble_eq_true rfl) ?_
  refine zJ_aload_n dX5_felt_0 rfl ?_
  refine zJ_iload_n dX5_felt_1 rfl ?_
  refine zJ_cV1 dX5_felt_2 sX5_70 mfX5_pence (c_Town_pence Δ w t h ht) (by first | rfl | assumption) rfl (by decide) (by decide) (by decide) ?_
  refine zJ_istore_n (ls2 := fun x5 => [(2, .int x5), (0, .ref t), (1, .int h)]) dX5_felt_5 (by decide) (fun _ => rfl) (fun x5 ex5 => ?_)
  refine zJ_aload_n dX5_felt_6 rfl ?_
  refine zJ_geti dX5_felt_7 fX5_55 (by first | rfl | assumption) rfl ?_
  refine zJ_if_le (tgt := 24) dX5_felt_10 (by decide) (fun h10 => ?_) (fun h10 => ?_)
  · refine zJ_iload_n dX5_felt_24 rfl ?_
    exact zJ_iret dX5_felt_25 rfl (by decide) (by decide) ⟨by subst ex5; first | (simp only [zfe, if_pos h10]; rfl) | (simp only [zfe, if_neg h10]; rfl), rfl⟩
  · refine zJ_iload_n dX5_felt_13 rfl ?_
    refine zJ_iload_n dX5_felt_14 rfl ?_
    refine zJ_aload_n dX5_felt_15 rfl ?_
    refine zJ_geti dX5_felt_16 fX5_55 (by first | rfl | assumption) rfl ?_
    refine zJ_irem dX5_felt_19 (fun e => h10 (by rw [e]; decide)) ?_
    refine zJ_isub dX5_felt_20 ?_
    refine zJ_goto (tgt := 25) dX5_felt_21 (by decide) ?_
    exact zJ_iret dX5_felt_25 rfl (by decide) (by decide) ⟨by subst ex5; first | (simp only [zfe, if_pos h10]; rfl) | (simp only [zfe, if_neg h10]; rfl), rfl⟩
set_option maxRecDepth 100000 in
theorem c_Town_everyone (Δ : zD) (w : zW) (t : Nat) (ht : w.1 t = some (.inl 5)) : zMd Δ 0 0 0 true yX5_everyone mX5_everyone [.ref t] w (some (.int ((1 <<< (w.2.1 t 0 &&& 31)) - 1))) w := by
  refine zM.of mfX5_everyone (Nat.le_of_ble_eq_true rfl) ?_
  refine zJ_iconst (v := 1) dX5_everyone_0 (by decide) ?_
  refine zJ_aload_n dX5_everyone_1 rfl ?_
  refine zJ_geti dX5_everyone_2 fX5_27 (by first | rfl | assumption) rfl ?_
  refine zJ_ishl dX5_everyone_5 ?_
  refine zJ_iconst (v := 1) dX5_everyone_6 (by decide) ?_
  refine zJ_isub dX5_everyone_7 ?_
  exact zJ_iret dX5_everyone_8 rfl (by decide) (by decide) ⟨rfl, rfl⟩
set_option maxRecDepth 100000 in
theorem c_Town_countsSent (Δ : zD) (w : zW) (t : Nat) (ht : w.1 t = some (.inl 5)) : zMd Δ 0 0 0 true yX5_countsSent mX5_countsSent [.ref t] w (some (.int (if w.2.1 t 10 ≠ 0 ∧ 0 < w.2.1 t 9 then 1 else 0))) w := by
  refine zM.of mfX5_countsSent (Nat.le_of_ble_eq_true rfl) ?_
  refine zJ_aload_n dX5_countsSent_0 rfl ?_
  refine zJ_geti dX5_countsSent_1 fX5_52 (by first | rfl | assumption) rfl ?_
  refine zJ_if_eq (tgt := 18) dX5_countsSent_4 (by decide) (fun h4 => ?_) (fun h4 => ?_)
  · refine zJ_iconst (v := 0) dX5_countsSent_18 (by decide) ?_
    exact zJ_zret dX5_countsSent_19 rfl rfl (by decide) (by decide) ⟨by simp [*], rfl⟩
  · refine zJ_aload_n dX5_countsSent_7 rfl ?_
    refine zJ_geti dX5_countsSent_8 fX5_49 (by first | rfl | assumption) rfl ?_
    refine zJ_if_le (tgt := 18) dX5_countsSent_11 (by decide) (fun h11 => ?_) (fun h11 => ?_)
    · refine zJ_iconst (v := 0) dX5_countsSent_18 (by decide) ?_
      exact zJ_zret dX5_countsSent_19 rfl rfl (by decide) (by decide) ⟨by simp [*], rfl⟩
    · refine zJ_iconst (v := 1) dX5_countsSent_14 (by decide) ?_
      refine zJ_goto (tgt := 19) dX5_countsSent_15 (by decide) ?_
      exact zJ_zret dX5_countsSent_19 rfl rfl (by decide) (by decide) ⟨by simp [*], rfl⟩
/-- a LETTER as at first -/
def zsc0 (k : Nat) : Int32 := if k = 5 ∨ k = 6 ∨ k = 11 then 1 else if k = 7 then 8 else 0
def ztow0 (w : zW) (t : Nat) : zW := ztow w t zsc0 (fun _ => 0) (fun _ => 0) (fun _ => 0) (fun _ => 0)
set_option maxHeartbeats 4000000 in
set_option maxRecDepth 100000 in
theorem c_Town_reset (Δ : zD) (w : zW) (t : Nat) (hT : zTn w t) : zMd Δ 1 0 0 true yX5_reset mX5_reset [.ref t] w none (ztow0 w t) := by
  refine zM.of mfX5_reset (Nat.le_of_ble_eq_true rfl) ?_
  have hT0 := hT
  obtain ⟨g0, r1, r2, r3, r4, g1, g2, g3, g4⟩ := hT
  refine zJ_aload_n dX5_reset_0 rfl ?_
  refine zJ_iconst (v := 0) dX5_reset_1 (by decide) ?_
  refine zJ_puti dX5_reset_2 fX5_27 (fun q h => by cases h; rfl) (by first | rfl | assumption) rfl rfl rfl ?_
  refine zJ_aload_n dX5_reset_5 rfl ?_
  refine zJ_getr dX5_reset_6 fX5_9 (by first | rfl | assumption) rfl (by first | rfl | assumption) ?_
  refine zJ_iconst (v := 0) dX5_reset_9 (by decide) ?_
  refine zJ_cS2 dX5_reset_10 sX5_31 mfJ7_fill_53178 (c_fill_i Δ _ (t + 1) 8 0 (by decide) g1) (by decide) (by decide) (by decide) ?_
  refine zJ_aload_n dX5_reset_13 rfl ?_
  refine zJ_getr dX5_reset_14 fX5_15 (by first | rfl | assumption) rfl (by first | rfl | assumption) ?_
  refine zJ_iconst (v := 0) dX5_reset_17 (by decide) ?_
  refine zJ_cS2 dX5_reset_18 sX5_31 mfJ7_fill_53178 (c_fill_i Δ _ (t + 2) 8 0 (by decide) g2) (by decide) (by decide) (by decide) ?_
  refine zJ_aload_n dX5_reset_21 rfl ?_
  refine zJ_getr dX5_reset_22 fX5_18 (by first | rfl | assumption) rfl (by first | rfl | assumption) ?_
  refine zJ_iconst (v := 0) dX5_reset_25 (by decide) ?_
  refine zJ_cS2 dX5_reset_26 sX5_31 mfJ7_fill_53178 (c_fill_i Δ _ (t + 3) 8 0 (by decide) g3) (by decide) (by decide) (by decide) ?_
  refine zJ_aload_n dX5_reset_29 rfl ?_
  refine zJ_getr dX5_reset_30 fX5_21 (by first | rfl | assumption) rfl (by first | rfl | assumption) ?_
  refine zJ_iconst (v := 0) dX5_reset_33 (by decide) ?_
  refine zJ_cS2 dX5_reset_34 sX5_31 mfJ7_fill_53178 (c_fill_i Δ _ (t + 4) 64 0 (by decide) g4) (by decide) (by decide) (by decide) ?_
  refine zJ_aload_n dX5_reset_37 rfl ?_
  refine zJ_iconst (v := 1) dX5_reset_38 (by decide) ?_
  refine zJ_puti dX5_reset_39 fX5_37 (fun q h => by cases h; rfl) (by first | rfl | assumption) rfl rfl rfl ?_
  refine zJ_aload_n dX5_reset_42 rfl ?_
  refine zJ_iconst (v := 1) dX5_reset_43 (by decide) ?_
  refine zJ_puti dX5_reset_44 fX5_40 (fun q h => by cases h; rfl) (by first | rfl | assumption) rfl rfl rfl ?_
  refine zJ_aload_n dX5_reset_47 rfl ?_
  refine zJ_bipush (v := 8) dX5_reset_48 (by decide) ?_
  refine zJ_puti dX5_reset_50 fX5_43 (fun q h => by cases h; rfl) (by first | rfl | assumption) rfl rfl rfl ?_
  refine zJ_aload_n dX5_reset_53 rfl ?_
  refine zJ_iconst (v := 0) dX5_reset_54 (by decide) ?_
  refine zJ_puti dX5_reset_55 fX5_46 (fun q h => by cases h; rfl) (by first | rfl | assumption) rfl rfl rfl ?_
  refine zJ_aload_n dX5_reset_58 rfl ?_
  refine zJ_iconst (v := 0) dX5_reset_59 (by decide) ?_
  refine zJ_puti dX5_reset_60 fX5_49 (fun q h => by cases h; rfl) (by first | rfl | assumption) rfl rfl rfl ?_
  refine zJ_aload_n dX5_reset_63 rfl ?_
  refine zJ_iconst (v := 0) dX5_reset_64 (by decide) ?_
  refine zJ_puti dX5_reset_65 fX5_52 (fun q h => by cases h; rfl) (by first | rfl | assumption) rfl rfl rfl ?_
  refine zJ_aload_n dX5_reset_68 rfl ?_
  refine zJ_iconst (v := 1) dX5_reset_69 (by decide) ?_
  refine zJ_puti dX5_reset_70 fX5_55 (fun q h => by cases h; rfl) (by first | rfl | assumption) rfl rfl rfl ?_
  refine zJ_aload_n dX5_reset_73 rfl ?_
  refine zJ_iconst (v := 0) dX5_reset_74 (by decide) ?_
  refine zJ_puti dX5_reset_75 fX5_58 (fun q h => by cases h; rfl) (by first | rfl | assumption) rfl rfl rfl ?_
  refine zJ_aload_n dX5_reset_78 rfl ?_
  refine zJ_iconst (v := 0) dX5_reset_79 (by decide) ?_
  refine zJ_puti dX5_reset_80 fX5_61 (fun q h => by cases h; rfl) (by first | rfl | assumption) rfl rfl rfl ?_
  refine zJ_ag (w2 := ztow0 w t) (zag_tow hT0 rfl rfl (fun k hk hz => ?_) (fun j hj => ?_) (fun j hj => ?_) (fun j hj => ?_) (fun j hj => ?_) (fun i e0 e1 e2 e3 e4 => ?_)) ?_
  · rcases (show k = 0 ∨ k = 1 ∨ k = 2 ∨ k = 3 ∨ k = 4 ∨ k = 5 ∨ k = 6 ∨ k = 7 ∨ k = 8 ∨ k = 9 ∨ k = 10 ∨ k = 11 ∨ k = 12 ∨ k = 13 by omega) with rfl | rfl | rfl | rfl | rfl | rfl | rfl | rfl | rfl | rfl | rfl | rfl | rfl | rfl <;> first | (exact absurd hz (by decide)) | (simp [zsi, zrow, zsc0])
  · simp [zsi, zrow, hj]
  · simp [zsi, zrow, hj]
  · simp [zsi, zrow, hj]
  · simp [zsi, zrow, hj]
  · funext j; simp [zsi, zrow, e0, e1, e2, e3, e4]
  exact zJ_vret dX5_reset_83 rfl (by decide) (by decide) ⟨rfl, rfl⟩
set_option maxRecDepth 100000 in
theorem acpX5 : Cond.methodLink RX5 64 arraycopyName ∈ lw_tbl := List.mem_of_getElem? (i := 883) rfl
set_option maxRecDepth 100000 in
theorem acpX3 : Cond.methodLink RX3 28 arraycopyName ∈ lw_tbl := List.mem_of_getElem? (i := 645) rfl
set_option maxRecDepth 100000 in
theorem acpX7 : Cond.methodLink RX7 41 arraycopyName ∈ lw_tbl := List.mem_of_getElem? (i := 656) rfl
def ztowc (w : zW) (t f : Nat) : zW := ztow w t (w.2.1 f) (w.2.1 (f + 1)) (w.2.1 (f + 2)) (w.2.1 (f + 3)) (w.2.1 (f + 4))
set_option maxHeartbeats 4000000 in
set_option maxRecDepth 100000 in
theorem c_Town_copy (Δ : zD) (w : zW) (t f : Nat) (hT : zTn w t) (hF : zTn w f) (hd : f + 4 < t ∨ t + 4 < f) : zMd Δ 1 0 0 true yX5_copy mX5_copy [.ref t, .ref f] w none (ztowc w t f) := by
  refine zM.of mfX5_copy (Nat.le_of_ble_eq_true rfl) ?_
  have hT0 := hT
  obtain ⟨g0, r1, r2, r3, r4, g1, g2, g3, g4⟩ := hT
  obtain ⟨f0, q1, q2, q3, q4, f1, f2, f3, f4⟩ := hF
  refine zJ_aload_n dX5_copy_0 rfl ?_
  refine zJ_aload_n dX5_copy_1 rfl ?_
  refine zJ_geti dX5_copy_2 fX5_27 (by first | rfl | assumption) rfl ?_
  refine zJ_puti dX5_copy_5 fX5_27 (fun q h => by cases h; rfl) (by first | rfl | assumption) rfl rfl rfl ?_
  refine zJ_aload_n dX5_copy_8 rfl ?_
  refine zJ_getr dX5_copy_9 fX5_9 (by first | rfl | assumption) rfl (by first | rfl | assumption) ?_
  refine zJ_iconst (v := 0) dX5_copy_12 (by decide) ?_
  refine zJ_aload_n dX5_copy_13 rfl ?_
  refine zJ_getr dX5_copy_14 fX5_9 (by first | rfl | assumption) rfl (by first | rfl | assumption) ?_
  refine zJ_iconst (v := 0) dX5_copy_17 (by decide) ?_
  refine zJ_bipush (v := 8) dX5_copy_18 (by decide) ?_
  refine zJ_copy (sp := 0) (dp := 0) (nn := 8) (n0 := 8) (n1 := 8) dX5_copy_20 acpX5 (by first | rfl | assumption) (by first | rfl | assumption) (by decide) (by decide) (by decide) (by decide) (by decide) (by decide) ?_
  refine zJ_aload_n dX5_copy_23 rfl ?_
  refine zJ_getr dX5_copy_24 fX5_15 (by first | rfl | assumption) rfl (by first | rfl | assumption) ?_
  refine zJ_iconst (v := 0) dX5_copy_27 (by decide) ?_
  refine zJ_aload_n dX5_copy_28 rfl ?_
  refine zJ_getr dX5_copy_29 fX5_15 (by first | rfl | assumption) rfl (by first | rfl | assumption) ?_
  refine zJ_iconst (v := 0) dX5_copy_32 (by decide) ?_
  refine zJ_bipush (v := 8) dX5_copy_33 (by decide) ?_
  refine zJ_copy (sp := 0) (dp := 0) (nn := 8) (n0 := 8) (n1 := 8) dX5_copy_35 acpX5 (by first | rfl | assumption) (by first | rfl | assumption) (by decide) (by decide) (by decide) (by decide) (by decide) (by decide) ?_
  refine zJ_aload_n dX5_copy_38 rfl ?_
  refine zJ_getr dX5_copy_39 fX5_18 (by first | rfl | assumption) rfl (by first | rfl | assumption) ?_
  refine zJ_iconst (v := 0) dX5_copy_42 (by decide) ?_
  refine zJ_aload_n dX5_copy_43 rfl ?_
  refine zJ_getr dX5_copy_44 fX5_18 (by first | rfl | assumption) rfl (by first | rfl | assumption) ?_
  refine zJ_iconst (v := 0) dX5_copy_47 (by decide) ?_
  refine zJ_bipush (v := 8) dX5_copy_48 (by decide) ?_
  refine zJ_copy (sp := 0) (dp := 0) (nn := 8) (n0 := 8) (n1 := 8) dX5_copy_50 acpX5 (by first | rfl | assumption) (by first | rfl | assumption) (by decide) (by decide) (by decide) (by decide) (by decide) (by decide) ?_
  refine zJ_aload_n dX5_copy_53 rfl ?_
  refine zJ_getr dX5_copy_54 fX5_21 (by first | rfl | assumption) rfl (by first | rfl | assumption) ?_
  refine zJ_iconst (v := 0) dX5_copy_57 (by decide) ?_
  refine zJ_aload_n dX5_copy_58 rfl ?_
  refine zJ_getr dX5_copy_59 fX5_21 (by first | rfl | assumption) rfl (by first | rfl | assumption) ?_
  refine zJ_iconst (v := 0) dX5_copy_62 (by decide) ?_
  refine zJ_bipush (v := 64) dX5_copy_63 (by decide) ?_
  refine zJ_copy (sp := 0) (dp := 0) (nn := 64) (n0 := 64) (n1 := 64) dX5_copy_65 acpX5 (by first | rfl | assumption) (by first | rfl | assumption) (by decide) (by decide) (by decide) (by decide) (by decide) (by decide) ?_
  refine zJ_aload_n dX5_copy_68 rfl ?_
  refine zJ_aload_n dX5_copy_69 rfl ?_
  refine zJ_geti dX5_copy_70 fX5_37 (by first | rfl | assumption) rfl ?_
  refine zJ_puti dX5_copy_73 fX5_37 (fun q h => by cases h; rfl) (by first | rfl | assumption) rfl rfl rfl ?_
  refine zJ_aload_n dX5_copy_76 rfl ?_
  refine zJ_aload_n dX5_copy_77 rfl ?_
  refine zJ_geti dX5_copy_78 fX5_40 (by first | rfl | assumption) rfl ?_
  refine zJ_puti dX5_copy_81 fX5_40 (fun q h => by cases h; rfl) (by first | rfl | assumption) rfl rfl rfl ?_
  refine zJ_aload_n dX5_copy_84 rfl ?_
  refine zJ_aload_n dX5_copy_85 rfl ?_
  refine zJ_geti dX5_copy_86 fX5_43 (by first | rfl | assumption) rfl ?_
  refine zJ_puti dX5_copy_89 fX5_43 (fun q h => by cases h; rfl) (by first | rfl | assumption) rfl rfl rfl ?_
  refine zJ_aload_n dX5_copy_92 rfl ?_
  refine zJ_aload_n dX5_copy_93 rfl ?_
  refine zJ_geti dX5_copy_94 fX5_46 (by first | rfl | assumption) rfl ?_
  refine zJ_puti dX5_copy_97 fX5_46 (fun q h => by cases h; rfl) (by first | rfl | assumption) rfl rfl rfl ?_
  refine zJ_aload_n dX5_copy_100 rfl ?_
  refine zJ_aload_n dX5_copy_101 rfl ?_
  refine zJ_geti dX5_copy_102 fX5_49 (by first | rfl | assumption) rfl ?_
  refine zJ_puti dX5_copy_105 fX5_49 (fun q h => by cases h; rfl) (by first | rfl | assumption) rfl rfl rfl ?_
  refine zJ_aload_n dX5_copy_108 rfl ?_
  refine zJ_aload_n dX5_copy_109 rfl ?_
  refine zJ_geti dX5_copy_110 fX5_52 (by first | rfl | assumption) rfl ?_
  refine zJ_puti dX5_copy_113 fX5_52 (fun q h => by cases h; rfl) (by first | rfl | assumption) rfl rfl rfl ?_
  refine zJ_aload_n dX5_copy_116 rfl ?_
  refine zJ_aload_n dX5_copy_117 rfl ?_
  refine zJ_geti dX5_copy_118 fX5_55 (by first | rfl | assumption) rfl ?_
  refine zJ_puti dX5_copy_121 fX5_55 (fun q h => by cases h; rfl) (by first | rfl | assumption) rfl rfl rfl ?_
  refine zJ_aload_n dX5_copy_124 rfl ?_
  refine zJ_aload_n dX5_copy_125 rfl ?_
  refine zJ_geti dX5_copy_126 fX5_58 (by first | rfl | assumption) rfl ?_
  refine zJ_puti dX5_copy_129 fX5_58 (fun q h => by cases h; rfl) (by first | rfl | assumption) rfl rfl rfl ?_
  refine zJ_aload_n dX5_copy_132 rfl ?_
  refine zJ_aload_n dX5_copy_133 rfl ?_
  refine zJ_geti dX5_copy_134 fX5_61 (by first | rfl | assumption) rfl ?_
  refine zJ_puti dX5_copy_137 fX5_61 (fun q h => by cases h; rfl) (by first | rfl | assumption) rfl rfl rfl ?_
  refine zJ_ag (w2 := ztowc w t f) (zag_tow hT0 rfl rfl (fun k hk hz => ?_) (fun j hj => ?_) (fun j hj => ?_) (fun j hj => ?_) (fun j hj => ?_) (fun i e0 e1 e2 e3 e4 => ?_)) ?_
  · rcases (show k = 0 ∨ k = 1 ∨ k = 2 ∨ k = 3 ∨ k = 4 ∨ k = 5 ∨ k = 6 ∨ k = 7 ∨ k = 8 ∨ k = 9 ∨ k = 10 ∨ k = 11 ∨ k = 12 ∨ k = 13 by omega) with rfl | rfl | rfl | rfl | rfl | rfl | rfl | rfl | rfl | rfl | rfl | rfl | rfl | rfl <;> first | (exact absurd hz (by decide)) | (simp [zsi, zcp, show ¬ (f = t) by omega, show ¬ (f = t + 1) by omega, show ¬ (f = t + 2) by omega, show ¬ (f = t + 3) by omega, show ¬ (f = t + 4) by omega, show ¬ (f + 1 = t) by omega, show ¬ (f + 1 = t + 1) by omega, show ¬ (f + 1 = t + 2) by omega, show ¬ (f + 1 = t + 3) by omega, show ¬ (f + 1 = t + 4) by omega, show ¬ (f + 2 = t) by omega, show ¬ (f + 2 = t + 1) by omega, show ¬ (f + 2 = t + 2) by omega, show ¬ (f + 2 = t + 3) by omega, show ¬ (f + 2 = t + 4) by omega, show ¬ (f + 3 = t) by omega, show ¬ (f + 3 = t + 1) by omega, show ¬ (f + 3 = t + 2) by omega, show ¬ (f + 3 = t + 3) by omega, show ¬ (f + 3 = t + 4) by omega, show ¬ (f + 4 = t) by omega, show ¬ (f + 4 = t + 1) by omega, show ¬ (f + 4 = t + 2) by omega, show ¬ (f + 4 = t + 3) by omega, show ¬ (f + 4 = t + 4) by omega])
  · simp [zsi, zcp, hj, show ¬ (f = t) by omega, show ¬ (f = t + 1) by omega, show ¬ (f = t + 2) by omega, show ¬ (f = t + 3) by omega, show ¬ (f = t + 4) by omega, show ¬ (f + 1 = t) by omega, show ¬ (f + 1 = t + 1) by omega, show ¬ (f + 1 = t + 2) by omega, show ¬ (f + 1 = t + 3) by omega, show ¬ (f + 1 = t + 4) by omega, show ¬ (f + 2 = t) by omega, show ¬ (f + 2 = t + 1) by omega, show ¬ (f + 2 = t + 2) by omega, show ¬ (f + 2 = t + 3) by omega, show ¬ (f + 2 = t + 4) by omega, show ¬ (f + 3 = t) by omega, show ¬ (f + 3 = t + 1) by omega, show ¬ (f + 3 = t + 2) by omega, show ¬ (f + 3 = t + 3) by omega, show ¬ (f + 3 = t + 4) by omega, show ¬ (f + 4 = t) by omega, show ¬ (f + 4 = t + 1) by omega, show ¬ (f + 4 = t + 2) by omega, show ¬ (f + 4 = t + 3) by omega, show ¬ (f + 4 = t + 4) by omega]
  · simp [zsi, zcp, hj, show ¬ (f = t) by omega, show ¬ (f = t + 1) by omega, show ¬ (f = t + 2) by omega, show ¬ (f = t + 3) by omega, show ¬ (f = t + 4) by omega, show ¬ (f + 1 = t) by omega, show ¬ (f + 1 = t + 1) by omega, show ¬ (f + 1 = t + 2) by omega, show ¬ (f + 1 = t + 3) by omega, show ¬ (f + 1 = t + 4) by omega, show ¬ (f + 2 = t) by omega, show ¬ (f + 2 = t + 1) by omega, show ¬ (f + 2 = t + 2) by omega, show ¬ (f + 2 = t + 3) by omega, show ¬ (f + 2 = t + 4) by omega, show ¬ (f + 3 = t) by omega, show ¬ (f + 3 = t + 1) by omega, show ¬ (f + 3 = t + 2) by omega, show ¬ (f + 3 = t + 3) by omega, show ¬ (f + 3 = t + 4) by omega, show ¬ (f + 4 = t) by omega, show ¬ (f + 4 = t + 1) by omega, show ¬ (f + 4 = t + 2) by omega, show ¬ (f + 4 = t + 3) by omega, show ¬ (f + 4 = t + 4) by omega]
  · simp [zsi, zcp, hj, show ¬ (f = t) by omega, show ¬ (f = t + 1) by omega, show ¬ (f = t + 2) by omega, show ¬ (f = t + 3) by omega, show ¬ (f = t + 4) by omega, show ¬ (f + 1 = t) by omega, show ¬ (f + 1 = t + 1) by omega, show ¬ (f + 1 = t + 2) by omega, show ¬ (f + 1 = t + 3) by omega, show ¬ (f + 1 = t + 4) by omega, show ¬ (f + 2 = t) by omega, show ¬ (f + 2 = t + 1) by omega, show ¬ (f + 2 = t + 2) by omega, show ¬ (f + 2 = t + 3) by omega, show ¬ (f + 2 = t + 4) by omega, show ¬ (f + 3 = t) by omega, show ¬ (f + 3 = t + 1) by omega, show ¬ (f + 3 = t + 2) by omega, show ¬ (f + 3 = t + 3) by omega, show ¬ (f + 3 = t + 4) by omega, show ¬ (f + 4 = t) by omega, show ¬ (f + 4 = t + 1) by omega, show ¬ (f + 4 = t + 2) by omega, show ¬ (f + 4 = t + 3) by omega, show ¬ (f + 4 = t + 4) by omega]
  · simp [zsi, zcp, hj, show ¬ (f = t) by omega, show ¬ (f = t + 1) by omega, show ¬ (f = t + 2) by omega, show ¬ (f = t + 3) by omega, show ¬ (f = t + 4) by omega, show ¬ (f + 1 = t) by omega, show ¬ (f + 1 = t + 1) by omega, show ¬ (f + 1 = t + 2) by omega, show ¬ (f + 1 = t + 3) by omega, show ¬ (f + 1 = t + 4) by omega, show ¬ (f + 2 = t) by omega, show ¬ (f + 2 = t + 1) by omega, show ¬ (f + 2 = t + 2) by omega, show ¬ (f + 2 = t + 3) by omega, show ¬ (f + 2 = t + 4) by omega, show ¬ (f + 3 = t) by omega, show ¬ (f + 3 = t + 1) by omega, show ¬ (f + 3 = t + 2) by omega, show ¬ (f + 3 = t + 3) by omega, show ¬ (f + 3 = t + 4) by omega, show ¬ (f + 4 = t) by omega, show ¬ (f + 4 = t + 1) by omega, show ¬ (f + 4 = t + 2) by omega, show ¬ (f + 4 = t + 3) by omega, show ¬ (f + 4 = t + 4) by omega]
  · funext j; simp [zsi, zcp, e0, e1, e2, e3, e4]
  exact zJ_vret dX5_copy_140 rfl (by decide) (by decide) ⟨rfl, rfl⟩
