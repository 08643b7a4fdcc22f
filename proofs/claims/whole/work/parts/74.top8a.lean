/-! LetterTown: theft, week, thieves, luck, on -/
theorem zev_and {pp : Nat} (hp : pp ≤ 8) (x : Int32) : x &&& (nI (2 ^ pp - 1) ^^^ (-1)) = 0 ↔ ∃ t, t < 2 ^ pp ∧ x = nI t := by
  have hx := zn32_eq x
  have hlt : zn32 x < 2 ^ 32 := x.toBitVec.isLt
  have h8 : 2 ^ pp ≤ 2 ^ 8 := Nat.pow_le_pow_right (by decide) hp
  rw [na_not, ← hx, na_and]
  have hz : ∀ a, a < 2 ^ 32 → (nI a = 0 ↔ a = 0) := fun a ha => by
    constructor
    · intro h
      have h2 := congrArg (fun z : Int32 => z.toBitVec.toNat) h
      simp only [nI] at h2
      have h3 : (Int32.ofNat a).toBitVec.toNat = a := by
        rw [show (Int32.ofNat a).toBitVec = BitVec.ofNat 32 a from rfl, BitVec.toNat_ofNat, Nat.mod_eq_of_lt ha]
      rw [h3] at h2
      exact h2
    · intro h; rw [h]; rfl
  rw [hz _ (Nat.lt_of_le_of_lt Nat.and_le_left hlt)]
  constructor
  · intro h
    refine ⟨zn32 x, ?_, rfl⟩
    refine Nat.lt_pow_two_of_testBit _ (fun j hj => ?_)
    by_cases hj32 : j < 32
    · have h1 := congrArg (fun z : Nat => z.testBit j) h
      simp only [Nat.testBit_and, tb_not, Nat.testBit_two_pow_sub_one, Nat.zero_testBit] at h1
      have h2 : decide (j < pp) = false := decide_eq_false (by omega)
      have h3 : decide (j < 32) = true := decide_eq_true hj32
      rw [h2, h3] at h1
      simpa using h1
    · exact Nat.testBit_lt_two_pow (Nat.lt_of_lt_of_le hlt (Nat.pow_le_pow_right (by decide) (by omega)))
  · rintro ⟨t, ht, h⟩
    have e : zn32 x = t := by
      have h2 := congrArg (fun z : Int32 => z.toBitVec.toNat) h
      simp only [nI] at h2
      rw [show (Int32.ofNat (zn32 x)).toBitVec = BitVec.ofNat 32 (zn32 x) from rfl, show (Int32.ofNat t).toBitVec = BitVec.ofNat 32 t from rfl, BitVec.toNat_ofNat, BitVec.toNat_ofNat, Nat.mod_eq_of_lt hlt, Nat.mod_eq_of_lt (by omega)] at h2
      exact h2
    rw [e]
    refine Nat.eq_of_testBit_eq (fun j => ?_)
    simp only [Nat.testBit_and, tb_not, Nat.testBit_two_pow_sub_one, Nat.zero_testBit]
    by_cases hj : j < pp
    · have h3 : decide (j < 32) = true := decide_eq_true (by omega)
      simp [hj, h3]
    · rw [Nat.testBit_lt_two_pow (Nat.lt_of_lt_of_le ht (Nat.pow_le_pow_right (by decide) (by omega)))]
      simp
set_option maxRecDepth 100000 in
theorem c_theft (Δ : zD) (w : zW) (U : zTo) (hB : zB w U) (x y : Int32) (n : Nat) (hn : n ≤ 30) (h2 : w.2.1 47 2 = nI n) : zM Δ 6 10 60 true yX8_theft mX8_theft [.ref 0, .int x, .int y] w (fun r d => ∃ t, t < 2 ^ U.1 0 ∧ x = nI t ∧ ((¬ (n < 30 ∧ (∃ f, f ≤ 8 ∧ y = nI f)) ∧ r = some (.int (-1)) ∧ d = zsi w 2 2 (w.2.1 2 2 + 1)) ∨ ((n < 30 ∧ (∃ f, f ≤ 8 ∧ y = nI f)) ∧ r = some (.int (nI (n + 1))) ∧ d = zsi (zsi (zsi w 48 n x) 49 n y) 47 2 (nI (n + 1))))) (fun E d => E = "java/lang/IllegalArgumentException" ∧ d = w ∧ ¬ (∃ t, t < 2 ^ U.1 0 ∧ x = nI t)) := by
  refine zM.of mfX8_theft (Nat.le_of_ble_eq_true rfl) ?_
  have hC := hB.1
  have hU := hB.2.2.1.1
  have hp0 := hB.2.1.2.1 0 (by decide) (by decide)
  have hp8 := hU.1
  have hk0 := hC.1 0 (by decide)
  have hTh : zTh w 47 := ⟨hC.1 _ (by decide), hC.2 _ _ rfl, hC.2 _ _ rfl, hC.2 _ _ rfl, hC.1 _ (by decide), hC.1 _ (by decide), hC.1 _ (by decide)⟩
  refine zJ_iload_n dX8_theft_0 rfl ?_
  refine zJ_aload_n dX8_theft_1 rfl ?_
  refine zJ_getr dX8_theft_2 fX8_32 (by first | rfl | assumption | exact hC.1 _ (by decide)) rfl (by first | rfl | assumption | exact hC.2 _ _ rfl) ?_
  refine zJ_cV0 dX8_theft_5 sX8_314 mfX5_everyone (c_Town_everyone Δ w 9 (hC.1 9 (by decide))) (by first | rfl | assumption | exact hC.1 _ (by decide)) rfl (Nat.le_of_ble_eq_true rfl) (by decide) (by decide) ?_
  rw [hp0, na_shl (U.1 0) (by omega), show nI (2 ^ U.1 0) - 1 = nI (2 ^ U.1 0 - 1) from na_sub (b := 1) (Nat.one_le_two_pow)]
  refine zJ_iconst (v := (-1)) dX8_theft_8 (by decide) ?_
  refine zJ_ixor dX8_theft_9 ?_
  refine zJ_iand dX8_theft_10 ?_
  refine zJ_if_eq (tgt := 25) dX8_theft_11 (by decide) (fun h11 => ?_) (fun h11 => ?_)
  · obtain ⟨t, ht, rfl⟩ := (zev_and hp8 x).mp h11
    refine zJ_iload_n dX8_theft_25 rfl ?_
    refine zJ_if_lt (tgt := 47) dX8_theft_26 (by decide) (fun h26 => ?_) (fun h26 => ?_)
    · have hno : ¬ (n < 30 ∧ (∃ f, f ≤ 8 ∧ y = nI f)) := fun ⟨_, h, h1, h2⟩ => by
        rw [h2] at h26
        exact absurd ((nI_ltI (b := 0) (by omega) (by decide)).mp h26) (by omega)
      refine zJ_aload_n dX8_theft_47 rfl ?_
      refine zJ_getr dX8_theft_48 fX8_17 (by first | rfl | assumption | exact hC.1 _ (by decide)) rfl (by first | rfl | assumption | exact hC.2 _ _ rfl) ?_
      refine zJ_iconst (v := 2) dX8_theft_51 (by decide) ?_
      refine zJ_dup2_11 dX8_theft_52 rfl rfl ?_
      refine zJ_iald dX8_theft_53 (by first | rfl | assumption | exact hC.1 _ (by decide)) (vp_in_nI (n := 2) (by decide) (by decide)) ?_
      refine zJ_iconst (v := 1) dX8_theft_54 (by decide) ?_
      refine zJ_iadd dX8_theft_55 ?_
      refine zJ_iast dX8_theft_56 (by first | rfl | assumption | exact hC.1 _ (by decide)) (vp_in_nI (n := 2) (by decide) (by decide)) ?_
      refine zJ_iconst (v := (-1)) dX8_theft_57 (by decide) ?_
      exact zJ_iret dX8_theft_58 rfl (by decide) (by decide) ⟨t, ht, rfl, Or.inl ⟨hno, rfl, rfl⟩⟩
    · refine zJ_iload_n dX8_theft_29 rfl ?_
      refine zJ_bipush (v := 8) dX8_theft_30 (by decide) ?_
      refine zJ_icmp_gt (tgt := 47) dX8_theft_32 (by decide) (fun h32 => ?_) (fun h32 => ?_)
      · have hno : ¬ (n < 30 ∧ (∃ f, f ≤ 8 ∧ y = nI f)) := fun ⟨_, h, h1, h2⟩ => by
          rw [h2] at h32
          exact absurd ((nI_ltI (a := 8) (by decide) (by omega)).mp h32) (by omega)
        refine zJ_aload_n dX8_theft_47 rfl ?_
        refine zJ_getr dX8_theft_48 fX8_17 (by first | rfl | assumption | exact hC.1 _ (by decide)) rfl (by first | rfl | assumption | exact hC.2 _ _ rfl) ?_
        refine zJ_iconst (v := 2) dX8_theft_51 (by decide) ?_
        refine zJ_dup2_11 dX8_theft_52 rfl rfl ?_
        refine zJ_iald dX8_theft_53 (by first | rfl | assumption | exact hC.1 _ (by decide)) (vp_in_nI (n := 2) (by decide) (by decide)) ?_
        refine zJ_iconst (v := 1) dX8_theft_54 (by decide) ?_
        refine zJ_iadd dX8_theft_55 ?_
        refine zJ_iast dX8_theft_56 (by first | rfl | assumption | exact hC.1 _ (by decide)) (vp_in_nI (n := 2) (by decide) (by decide)) ?_
        refine zJ_iconst (v := (-1)) dX8_theft_57 (by decide) ?_
        exact zJ_iret dX8_theft_58 rfl (by decide) (by decide) ⟨t, ht, rfl, Or.inl ⟨hno, rfl, rfl⟩⟩
      · obtain ⟨fv, hf31, rfl⟩ := nI_of h26
        have hfv : fv ≤ 8 := (nI_leI (b := 8) (by omega) (by decide)).mp (Int32.not_lt.mp h32)
        refine zJ_aload_n dX8_theft_35 rfl ?_
        refine zJ_getr dX8_theft_36 fX8_65 (by first | rfl | assumption | exact hC.1 _ (by decide)) rfl (by first | rfl | assumption | exact hC.2 _ _ rfl) ?_
        refine zJ_iload_n dX8_theft_39 rfl ?_
        refine zJ_iload_n dX8_theft_40 rfl ?_
        by_cases hn30 : n < 30
        · refine zJ_cV2 dX8_theft_41 sX8_319 mfX4_add (c_Theft_add Δ w 47 n (nI t) (nI fv) hTh h2 hn30) (hC.1 _ (by decide)) rfl (Nat.le_of_ble_eq_true rfl) (by decide) (by decide) ?_
          refine zJ_if_ne (tgt := 59) dX8_theft_44 (by decide) (fun _ => ?_) (fun h9 => False.elim (by revert h9; decide))
          refine zJ_aload_n dX8_theft_59 rfl ?_
          refine zJ_getr dX8_theft_60 fX8_65 (by first | rfl | assumption | exact hC.1 _ (by decide)) rfl (by first | rfl | assumption | exact hC.2 _ _ rfl) ?_
          refine zJ_geti dX8_theft_63 fX8_150 (by first | rfl | assumption | exact hC.1 _ (by decide)) rfl ?_
          rw [show (zsi (zsi (zsi w 48 n (nI t)) 49 n (nI fv)) 47 2 (nI (n + 1))).2.1 47 2 = nI (n + 1) by simp [zsi]]
          exact zJ_iret dX8_theft_66 rfl (by decide) (by decide) ⟨t, ht, rfl, Or.inr ⟨⟨hn30, fv, hfv, rfl⟩, rfl, rfl⟩⟩
        · refine zJ_cV2 dX8_theft_41 sX8_319 mfX4_add (c_Theft_add0 Δ w 47 (nI t) (nI fv) hTh (by rw [h2, show n = 30 by omega]; rfl)) (hC.1 _ (by decide)) rfl (Nat.le_of_ble_eq_true rfl) (by decide) (by decide) ?_
          refine zJ_if_ne (tgt := 59) dX8_theft_44 (by decide) (fun h9 => False.elim (by revert h9; decide)) (fun _ => ?_)
          have hno : ¬ (n < 30 ∧ (∃ f, f ≤ 8 ∧ (nI fv) = nI f)) := fun h => absurd h.1 (by omega)
          refine zJ_aload_n dX8_theft_47 rfl ?_
          refine zJ_getr dX8_theft_48 fX8_17 (by first | rfl | assumption | exact hC.1 _ (by decide)) rfl (by first | rfl | assumption | exact hC.2 _ _ rfl) ?_
          refine zJ_iconst (v := 2) dX8_theft_51 (by decide) ?_
          refine zJ_dup2_11 dX8_theft_52 rfl rfl ?_
          refine zJ_iald dX8_theft_53 (by first | rfl | assumption | exact hC.1 _ (by decide)) (vp_in_nI (n := 2) (by decide) (by decide)) ?_
          refine zJ_iconst (v := 1) dX8_theft_54 (by decide) ?_
          refine zJ_iadd dX8_theft_55 ?_
          refine zJ_iast dX8_theft_56 (by first | rfl | assumption | exact hC.1 _ (by decide)) (vp_in_nI (n := 2) (by decide) (by decide)) ?_
          refine zJ_iconst (v := (-1)) dX8_theft_57 (by decide) ?_
          exact zJ_iret dX8_theft_58 rfl (by decide) (by decide) ⟨t, ht, rfl, Or.inl ⟨hno, rfl, rfl⟩⟩
  · exact zJ_throwIW (text := "PEOPLE that there aren't") (j := 24) dX8_theft_14 dX8_theft_17 dX8_theft_18 dX8_theft_21 dX8_theft_24 rfl rfl (by decide +kernel) (Nat.le_of_ble_eq_true rfl) (Nat.le_of_ble_eq_true rfl) (by decide) (by decide) ⟨rfl, rfl, fun h => h11 ((zev_and hp8 x).mpr h)⟩
